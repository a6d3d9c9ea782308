/-! LawReader.told: a law comes into being -/
section Told
variable {p : Program} {l : Launch} {e : Env} {R : Room} {s : State} {m : MethodId} {args : Array Value} {below : List Frame} {meth : Method} {c : Code} {H H0 : Heap} {locs : List Loc} {cells slots : Nat} {Q : State → Prop}
variable {cc cc' : ByteArray} {pc nL nL' idx h mc ms mc' ms' : Nat} {ls : Array Slot} {rest As av : List Value} {D : DD} {G : Nat → Nat} {own : String} {E : List (Nat × Nat)} {y : MethodName} {Pre : Heap → Prop} {post : Heap → Heap → Prop}
theorem x_new (C : Cx D G p s m args meth c own cc nL) {ci N index b : Nat} {Cn : String} {T : u_T} (hh : H.size = b) (hw : ∀ w ∈ ([.classLink own index Cn, .instantiable Cn N, .initialized Cn] : List Cond), w ∈ lw_good) (hdg : decode cc pc = .ok (.new index, 3)) (hc : vwCl[ci]? = some (Cn, T, N)) (hR : cells + 1 ≤ R.cells ∧ slots + N ≤ R.slots)
    (kk : ∀ H1 : Heap, t_OB b (D.1.1 ci) N (D.1.2 ci) H1 (fun k => dflt (T k).2.2.1) → H1.size = b + 1 → (∀ q : Nat, q < b → H1[q]? = H[q]?) → W p l e R s m args below meth c H1 locs (cells + 1) (slots + N) Q (F0 m (pc + 3) ls (.ref b :: rest))) : W p l e R s m args below meth c H locs cells slots Q (F0 m pc ls rest) := by
  obtain ⟨hx, hb, hml, hown, hts, -, hK, -⟩ := C
  obtain ⟨hin, hnm, ty0, hty⟩ := vw_in hc
  have hKn := hK.1 ci _ hc
  refine W.newcK hx hb hown (hts _ (hw _ (by simp))) (hts _ (hw _ (by simp))) (hts _ (hw _ (by simp))) rfl hdg hR.1 hR.2 hKn.2.1 hh fun H1 kC hkC e1 z1 o1 => ?_
  refine kk H1 ((u_born ty0 hts hin hKn hkC e1 hty).to (fun j hj => ?_)) z1 o1
  show defaultValue (ty0 j) = dflt (T j).2.2.1
  unfold dflt
  rw [hty j hj]
theorem x_copy (C : Cx D G p s m args meth c own cc nL) (hO : Ok D G H) (hz : ∀ q : Nat, q < s.heap.size → G q = 0 → H[q]? = s.heap[q]?) {a : Nat} {x : Int32} (ha : G a = 22) (hx9 : 0 ≤ x.toInt ∧ x.toInt ≤ 400) (hw : ∀ w ∈ ([.methodLink own idx yJ7_copyOf_59c91, .static yJ7_copyOf_59c91, .initialized yJ7_copyOf_59c91.cls, .code yJ7_copyOf_59c91 cJ7_copyOf_59c91 3 (some (.array .int))] : List Cond), w ∈ lw_good)
    (hdg : decode cc pc = .ok (.invokestatic idx, 3)) (hsz : ls.size = nL) (hR : 1 + 9 ≤ R.frames ∧ 8 + (3 + 11) + (150 + 40 * 1) ≤ R.locals ∧ cells + 1 ≤ R.cells ∧ slots + 400 ≤ R.slots ∧ (rest.map fun v => v.category).sum ≤ 8)
    (kk : ∀ (q : Nat) (H1 : Heap) (L : List Loc), (∀ z ∈ L, z.base = a) → H.size ≤ q → H1[q]? = some (arrCell (D.2 0) x.toInt.toNat (fun j => eI H a j)) → (∀ b : Nat, b < H.size → H1[b]? = H[b]?) → H.size ≤ H1.size → W p l e R s m args below meth c H1 (locs ++ L) (cells + 1) (slots + 400) Q (F0 m (pc + 3) ls (.ref q :: rest))) : W p l e R s m args below meth c H locs cells slots Q (F0 m pc ls (.int x :: .ref a :: rest)) := by
  have hts := C.2.2.2.2.1
  have g := va_runS (g := F0 m pc ls ([.ref a, .int x].reverse ++ rest)) (As := [.ref a, .int x]) (rest := rest) (R := R) (locs := locs) (cells := cells) (slots := slots) (below := below) (meth := meth) (H := H) (e := e) (nL := nL) ⟨C.1, C.2.1, C.2.2.1, C.2.2.2.1, hts⟩ (c_copyOf l D G a x ha hx9) ⟨callB_of 2 hts (goodU (hw _ (by simp))) rfl rfl rfl (hts _ (hw _ (by simp))) (hts _ (hw _ (by simp))) (by decide +kernel) ⟨hR.1, hR.2.1⟩, hts _ (hw _ (by simp))⟩
    ⟨PcU.blind, fun U hU hW => ⟨rfl, C.2.2.2.2.2.2.1.moved hW.alike, by rw [hU]; exact C.2.2.2.2.2.2.2.move hW hz, by rw [hU]; exact hO, trivial⟩⟩ rfl rfl hsz rfl (by show 2 * 0 + _ ≤ 8; simpa using hR.2.2.2.2) hdg ⟨hR.2.2.1, hR.2.2.2.1⟩
  intro T hT X
  obtain ⟨v, st₀, t, T', L, h0, X', hL, e1, e2, ⟨q, hv, k1, k2, k3, k4⟩, st⟩ := g T hT X
  cases hv
  rw [h0] at k1 k2 k3 k4
  obtain ⟨t2, a1, b1⟩ := kk q t.heap L hL k1 k2 k3 k4 T' e1 X'
  exact ⟨t2, st t2 a1, b1⟩
theorem x_ctor (C : Cx D G p s m args meth c own cc nL) {b : Nat} (hM : CS l (fun _ => True) D y cc' nL' h mc' ms' (.ref b :: As) b Pre post) (hw : ∀ w ∈ ([.methodLink own idx y, .instanceMethod y, .initialized y.cls, .code y cc' nL' none] : List Cond), w ∈ lw_good) (hpre : Pre H) (hdg : decode cc pc = .ok (.invokespecial idx, 3)) (hsz : ls.size = nL) (hin : y.name = "<init>") (hd : Cd y As.length)
    (hR : h + 9 ≤ R.frames ∧ 8 + (nL' + 11) + (150 + 40 * h) ≤ R.locals ∧ cells + mc' ≤ R.cells ∧ slots + ms' ≤ R.slots ∧ (rest.map fun v => v.category).sum ≤ 8)
    (kk : ∀ (H1 : Heap) (L : List Loc), (∀ z ∈ L, z.base = b) → H1.size = H.size + mc' → (∀ q : Nat, q < H.size → q ≠ b → H1[q]? = H[q]?) → post H H1 → W p l e R s m args below meth c H1 (locs ++ L) (cells + mc') (slots + ms') Q (F0 m (pc + 3) ls rest)) : W p l e R s m args below meth c H locs cells slots Q (F0 m pc ls (As.reverse ++ .ref b :: rest)) := by
  have hts := C.2.2.2.2.1
  have g := va_runI (g := F0 m pc ls (As.reverse ++ .ref b :: rest)) (rest := rest) (R := R) (locs := locs) (cells := cells) (slots := slots) (below := below) (meth := meth) (H := H) (e := e) (nL := nL) ⟨C.1, C.2.1, C.2.2.1, C.2.2.2.1, hts⟩ hM ⟨callB_of As.length hts (goodU (hw _ (by simp))) rfl rfl rfl (hts _ (hw _ (by simp))) (hts _ (hw _ (by simp))) hd ⟨hR.1, hR.2.1⟩, hin, hts _ (hw _ (by simp))⟩
    ⟨PcS.blind0, fun U hU hW => ⟨rfl, C.2.2.2.2.2.2.1.moved hW.alike, trivial, by rw [hU]; exact hpre⟩⟩ rfl rfl hsz rfl (by show 2 * 0 + _ ≤ 8; simpa using hR.2.2.2.2) hdg ⟨hR.2.2.1, hR.2.2.2.1⟩
  intro T hT X
  obtain ⟨v, st₀, t, T', L, h0, X', hL, e1, e2, ⟨hv, hz, hf, hp⟩, st⟩ := g T hT X
  cases hv
  rw [h0] at hp hf hz
  obtain ⟨t2, a1, b1⟩ := kk t.heap L hL hz hf hp T' e1 X'
  exact ⟨t2, st t2 a1, b1⟩
end Told
def QT (D : DD) (G : Nat → Nat) (a0 : Nat) : Array Value → State → Outcome → State → Prop := fun _ st o t => ∃ (b : Nat) (G' : Nat → Nat), o = .returned (some (.ref b)) ∧ G' b = 12 ∧ (∀ q : Nat, q < st.heap.size → G' q = G q) ∧ (∀ q : Nat, st.heap.size ≤ q → G' q = 0 ∨ G' q = 12 ∨ G' q = 13 ∨ G' q = 14 ∨ G' q = 15) ∧ Ok D G' t.heap ∧ (∀ q : Nat, q < st.heap.size → t.heap[q]? = st.heap[q]?) ∧ st.heap.size ≤ t.heap.size ∧ fI D t.heap 3 b 0 = fI D st.heap 4 a0 4
theorem vok_q {G : Nat → Nat} {r k q a : Nat} {x y : Int} (ht : ft r k = (1, q, q, x, y)) (ha : G a = q) : vok G (ft r k) (.ref a) := by
  rw [ht]
  exact ⟨fun h => absurd h (by simp), fun _ => ⟨a, rfl, Or.inl ha⟩, fun h => absurd h (by simp)⟩
theorem cok_i {D : DD} {G : Nat → Nat} {H : Heap} {a r n t : Nat} {f : Nat → Int32} (hr : ri r = some t) (h1 : H[a]? = some (arrCell (D.2 t) n f)) (h2 : n < 2147483648) (h3 : aok r n f) : cok D G H a r := by
  have hro : ro r = none := by
    cases h : ro r with
    | none => rfl
    | some x => exact (ro_ri h hr).elim
  refine ⟨fun ci N h9 => (by rw [hro] at h9; cases h9), fun t' h9 => ?_, fun t' n' q' h9 => (ri_rr hr h9).elim, (Array.getElem?_eq_some_iff.mp h1).1⟩
  have h8 := hr.symm.trans h9
  simp only [Option.some.injEq] at h8
  subst h8
  exact ⟨_, _, h1, h2, h3⟩
theorem cok_o {D : DD} {G : Nat → Nat} {H : Heap} {a r ci N : Nat} {V : Nat → Value} (hr : ro r = some (ci, N)) (h1 : t_OB a (D.1.1 ci) N (D.1.2 ci) H V) (h2 : ∀ k, k < N → vok G (ft r k) (V k)) : cok D G H a r := by
  refine ⟨fun ci' N' h9 => ?_, fun t h9 => (ro_ri hr h9).elim, fun t n q h9 => (ro_rr hr h9).elim, by obtain ⟨c9, h9, -⟩ := h1; exact (Array.getElem?_eq_some_iff.mp h9).1⟩
  have h8 := hr.symm.trans h9
  simp only [Option.some.injEq, Prod.mk.injEq] at h8
  obtain ⟨rfl, rfl⟩ := h8
  exact ⟨V, h1, h2⟩
theorem kn_X4_24 : ∀ w ∈ ([.classLink RX4 24 RX3, .instantiable RX3 4, .initialized RX3] : List Cond), w ∈ lw_good := mem_dec (by decide +kernel)
theorem kC_X4_26 : ∀ w ∈ ([.methodLink RX4 26 yJ7_copyOf_59c91, .static yJ7_copyOf_59c91, .initialized yJ7_copyOf_59c91.cls, .code yJ7_copyOf_59c91 cJ7_copyOf_59c91 3 (some (.array .int))] : List Cond), w ∈ lw_good := mem_dec (by decide +kernel)
theorem kJ_X4_32 : ∀ w ∈ ([.methodLink RX4 32 yX3_init, .instanceMethod yX3_init, .initialized yX3_init.cls, .code yX3_init cX3_init 3 none] : List Cond), w ∈ lw_good := mem_dec (by decide +kernel)
set_option maxRecDepth 100000 in
set_option maxHeartbeats 4000000 in
theorem c_X4_told (l : Launch) (D : DD) (G : Nat → Nat) (a0 : Nat) (ga0 : G a0 = 21) : Met l yX4_told (wsU yX4_told cX4_told 1 (some (.object "HearthMoney$Law"))) (rmU 2 4 449) (PcU D G [.ref a0] (fun H => Lc D H a0)) (QT D G a0) 4 449 (fun q => G q ≠ 0) := by
  refine enter (by decide) (Nat.le_of_ble_eq_true rfl) ?_
  intro p e s m args below meth c ls Q hA hQ C hr hO hpre hl
  have hx := C.1
  have hb := C.2.1
  have hl : lv_has ls 1 [(0, .ref a0)] := hl
  have a0lt : a0 < s.heap.size := hO.lt (by rw [ga0]; decide)
  refine x_new (ci := 3) (T := TX3) (b := s.heap.size) C rfl kn_X4_24 dX4_told_0 rfl ⟨Nat.le_of_ble_eq_true rfl, Nat.le_of_ble_eq_true rfl⟩ (fun H1 o1 z1 e1 => ?_)
  have hO1 : Ok D G H1 := hO.grow (by omega) e1
  have K1 : Keep D G [] s.heap H1 := Keep.grow hO (by omega) e1
  refine lv_dup hx hb dX4_told_3 rfl ?_
  refine lv_aload_n hx hb dX4_told_4 rfl (lv_at hl 0 rfl) ?_
  refine q_gr (T := TX4) C hO1 ga0 2 kF_X4_13 dX4_told_5 rfl rfl (by decide) rfl (by decide) rfl (fun g2 => ?_)
  refine lv_aload_n hx hb dX4_told_8 rfl (lv_at hl 0 rfl) ?_
  refine q_gi (T := TX4) C hO1 ga0 3 kF_X4_17 dX4_told_9 rfl rfl (by decide) rfl (by decide) rfl ?_
  have r3 : 0 ≤ (fI D H1 4 a0 3).toInt ∧ (fI D H1 4 a0 3).toInt ≤ 400 := hO1.rng ga0 rfl (by decide) rfl
  refine x_copy C hO1 (fun q h1 h2 => e1 q h1) g2 r3 kC_X4_26 dX4_told_12 hl.1 ⟨Nat.le_of_ble_eq_true rfl, Nat.le_of_ble_eq_true rfl, Nat.le_of_ble_eq_true rfl, Nat.le_of_ble_eq_true rfl, Nat.le_of_ble_eq_true rfl⟩ (fun qc H2 L2 hL2 hq2 k2 e2 z2 => ?_)
  have hO2 : Ok D G H2 := hO1.grow z2 e2
  refine lv_aload_n hx hb dX4_told_15 rfl (lv_at hl 0 rfl) ?_
  refine q_gi (T := TX4) C hO2 ga0 4 kF_X4_21 dX4_told_16 rfl rfl (by decide) rfl (by decide) rfl ?_
  have qlt : qc < H2.size := (Array.getElem?_eq_some_iff.mp k2).1
  refine x_ctor (As := [.ref qc, .int (fI D H2 4 a0 4)]) C (c_X3_init l D s.heap.size qc (fI D H2 4 a0 4)) kJ_X4_32 (o1.kept (e2 _ (by omega))) dX4_told_19 hl.1 rfl cd_X3_init ⟨Nat.le_of_ble_eq_true rfl, Nat.le_of_ble_eq_true rfl, Nat.le_of_ble_eq_true rfl, Nat.le_of_ble_eq_true rfl, Nat.le_of_ble_eq_true rfl⟩ (fun H3 L3 hL3 z3 e3 w3 => ?_)
  obtain ⟨w1, w2, w4⟩ := w3
  have hold : ∀ q : Nat, q < s.heap.size → H3[q]? = s.heap[q]? := fun q hq => ((e3 q (by omega) (by omega)).trans (e2 q (by omega))).trans (e1 q hq)
  have hcode : H3[qc]? = some (arrCell (D.2 0) (fI D H1 4 a0 3).toInt.toNat (fun j => eI H1 (fR D H1 4 a0 2) j)) := (e3 qc qlt (by omega)).trans k2
  have hch : ∀ k, CH (fI D H1 4 a0 3).toInt.toNat (fun j => eI H1 (fR D H1 4 a0 2) j) k 0 := fun k => (Lc.keep hpre hO ga0 K1 (by simp) (by simp) (by simp)).ch (by omega) (fun j _ => rfl) k
  have hG0 : ∀ q : Nat, s.heap.size ≤ q → G q = 0 := fun q hq => Classical.not_not.mp (fun z => Nat.lt_irrefl _ (Nat.lt_of_lt_of_le (hO.lt z) hq))
  have hne1 : qc ≠ s.heap.size := by omega
  have hne2 : H2.size ≠ s.heap.size := by omega
  have hne3 : H2.size ≠ qc := by omega
  have hne4 : H2.size + 1 ≠ s.heap.size := by omega
  have hne5 : H2.size + 1 ≠ qc := by omega
  have hne6 : H2.size + 1 ≠ H2.size := by omega
  obtain ⟨G', hG'⟩ : ∃ g : Nat → Nat, g = fun q => if q = s.heap.size then 12 else if q = qc then 13 else if q = H2.size then 14 else if q = H2.size + 1 then 15 else G q := ⟨_, rfl⟩
  have r12 : G' s.heap.size = 12 := by rw [hG']; simp
  have r13 : G' qc = 13 := by rw [hG']; simp [hne1]
  have r14 : G' H2.size = 14 := by rw [hG']; simp [hne2, hne3]
  have r15 : G' (H2.size + 1) = 15 := by rw [hG']; simp [hne4, hne5]
  have rold : ∀ q : Nat, q < s.heap.size → G' q = G q := fun q hq => by
    rw [hG']
    show (if q = s.heap.size then 12 else if q = qc then 13 else if q = H2.size then 14 else if q = H2.size + 1 then 15 else G q) = G q
    rw [if_neg (by omega), if_neg (by omega), if_neg (by omega), if_neg (by omega)]
  have rnew : ∀ q : Nat, s.heap.size ≤ q → G' q ≠ 0 → q = s.heap.size ∨ q = qc ∨ q = H2.size ∨ q = H2.size + 1 := fun q hq h0 => by
    rw [hG'] at h0
    have h0 : (if q = s.heap.size then 12 else if q = qc then 13 else if q = H2.size then 14 else if q = H2.size + 1 then 15 else G q) ≠ 0 := h0
    by_cases y1 : q = s.heap.size
    · exact Or.inl y1
    by_cases y2 : q = qc
    · exact Or.inr (Or.inl y2)
    by_cases y3 : q = H2.size
    · exact Or.inr (Or.inr (Or.inl y3))
    by_cases y4 : q = H2.size + 1
    · exact Or.inr (Or.inr (Or.inr y4))
    rw [if_neg y1, if_neg y2, if_neg y3, if_neg y4] at h0
    exact absurd (hG0 q hq) h0
  have hOk : Ok D G' H3 := by
    refine Ok.ext (hO.grow (by omega) hold) (fun q h1 _ => rold q (hO.lt h1)) (fun a r ha hr9 h0 => ?_)
    by_cases hlt : a < s.heap.size
    · rw [rold a hlt] at hr9
      rcases ha with ha | ha
      · exact absurd (hr9.symm.trans ha) h0
      · have : r = 99 := hr9.symm.trans ha
        subst this
        exact cok99 (by omega)
    · rcases rnew a (by omega) (by rw [hr9]; exact h0) with y | y | y | y
      · subst y
        rw [r12] at hr9
        subst hr9
        exact cok_o (r := 12) rfl w1 (fun k hk => match k, hk with | 0, _ => vok_a rfl | 1, _ => vok_q (r := 12) (k := 1) rfl r13 | 2, _ => vok_q (r := 12) (k := 2) rfl r14 | 3, _ => vok_q (r := 12) (k := 3) rfl r15 | k + 4, hk => absurd hk (by omega))
      · subst y
        rw [r13] at hr9
        subst hr9
        exact cok_i (r := 13) rfl hcode (by omega) ⟨by omega, hch⟩
      · subst y
        rw [r14] at hr9
        subst hr9
        exact cok_i (r := 14) rfl w2 (by decide) rfl
      · subst y
        rw [r15] at hr9
        subst hr9
        exact cok_i (r := 15) rfl w4 (by decide) rfl
  subst hQ
  have hpost : ∀ t : State, t.heap = H3 → s.WarmedH t.vm → QT D G a0 args s (.returned (some (.ref s.heap.size))) t := by
    intro t ht _
    refine ⟨s.heap.size, G', rfl, r12, rold, fun q hq => ?_, by rw [ht]; exact hOk, fun q hq => by rw [ht]; exact hold q hq, by rw [ht]; omega, ?_⟩
    rotate_left
    · rw [ht]
      show vI (fV D H3 3 s.heap.size 0) = _
      rw [ob_V w1 (by decide)]
      show fI D H2 4 a0 4 = _
      exact congrArg vI (fV_of ((e2 a0 (by omega)).trans (e1 a0 a0lt)) 4 4)
    by_cases h0 : G' q = 0
    · exact Or.inl h0
    · rcases rnew q hq h0 with y | y | y | y
      · subst y; exact Or.inr (Or.inl r12)
      · subst y; exact Or.inr (Or.inr (Or.inl r13))
      · subst y; exact Or.inr (Or.inr (Or.inr (Or.inl r14)))
      · subst y; exact Or.inr (Or.inr (Or.inr (Or.inr r15)))
  refine W.relocs (locs' := L2) (fun y hy hlt => ?_) ?_
  · rcases List.mem_append.mp hy with h9 | h9
    · rcases List.mem_append.mp h9 with h8 | h8
      · exact nomatch h8
      · exact h8
    · have h8 : y.base = s.heap.size := hL3 y h9
      rw [h8] at hlt
      exact absurd hlt (Nat.lt_irrefl _)
  exact W.aret C.1 C.2.1 hr (Or.inl ⟨_, rfl⟩) (Or.inr ⟨_, rfl⟩) hpost (fun z hz => by rw [hL2 z hz, g2]; decide) dX4_told_22 (hlocks := C.2.2.2.2.2.1)
