/-! the draft: while all its rows are good it counts as a parish -/
def rtn (r : Nat) : Nat := if r = 23 then 4 else if r = 24 then 6 else if r = 25 then 8 else r
def rt (G : Nat → Nat) (a : Nat) : Nat := rtn (G a)
theorem rtn_0 {r : Nat} : rtn r = 0 ↔ r = 0 := by
  unfold rtn
  split <;> (try split) <;> (try split) <;> omega
theorem rt_0 {G : Nat → Nat} {a : Nat} : rt G a = 0 ↔ G a = 0 := rtn_0
theorem rtn_id {r : Nat} (h1 : r ≠ 23) (h2 : r ≠ 24) (h3 : r ≠ 25) : rtn r = r := by
  unfold rtn
  rw [if_neg h1, if_neg h2, if_neg h3]
theorem rtn_ro (r : Nat) : ro (rtn r) = ro r := by
  by_cases h1 : r = 23
  · subst h1; rfl
  by_cases h2 : r = 24
  · subst h2; rfl
  by_cases h3 : r = 25
  · subst h3; rfl
  rw [rtn_id h1 h2 h3]
theorem rtn_ri (r : Nat) : ri (rtn r) = ri r := by
  by_cases h1 : r = 23
  · subst h1; rfl
  by_cases h2 : r = 24
  · subst h2; rfl
  by_cases h3 : r = 25
  · subst h3; rfl
  rw [rtn_id h1 h2 h3]
theorem rtn_aok {r n : Nat} {f : Nat → Int32} (h : aok (rtn r) n f) : aok r n f := by
  by_cases h1 : r = 23
  · subst h1; exact True.intro
  by_cases h2 : r = 24
  · subst h2; exact True.intro
  by_cases h3 : r = 25
  · subst h3; exact True.intro
  rwa [rtn_id h1 h2 h3] at h
/-- the mates of a role -/
def mate (r : Nat) : Nat := if r = 4 then 23 else if r = 6 then 24 else if r = 8 then 25 else r
theorem of_rtn {r q : Nat} (h : rtn r = q) : r = q ∨ r = mate q := by
  unfold rtn at h
  unfold mate
  split at h
  · subst h; right; simp_all
  · split at h
    · subst h; right; simp_all
    · split at h
      · subst h; right; simp_all
      · exact Or.inl h
def ftle (r q k : Nat) : Bool := (rr r).isNone && (rr q).isNone && ((ft r k).1 == (ft q k).1) && (((ft r k).1 == 0 && decide ((ft q k).2.2.2.1 ≤ (ft r k).2.2.2.1) && decide ((ft r k).2.2.2.2 ≤ (ft q k).2.2.2.2)) || ((ft r k).1 == 2 && ft r k == (2, 12, 12, 0, 0) && ft q k == (2, 12, 12, 0, 0)))
def eok (E : List (Nat × Nat)) : Bool := E.all fun x => ftle x.1 x.1 x.2 && ftle x.1 (mate x.1) x.2
def upE (E : List (Nat × Nat)) : List (Nat × Nat) := E ++ E.map fun x => (mate x.1, x.2)
theorem upE_of {E : List (Nat × Nat)} {r k : Nat} (h : (rtn r, k) ∈ E) : (r, k) ∈ upE E := by
  unfold upE
  rw [List.mem_append]
  rcases of_rtn (q := rtn r) rfl with h1 | h1
  · left; rwa [← h1] at h
  · right; rw [List.mem_map]; exact ⟨_, h, by rw [← h1]⟩
theorem vok_re {G : Nat → Nat} {r k : Nat} {v : Value} (hf : ftle (rtn r) r k = true) (h : vok (rt G) (ft (rtn r) k) v) : vok G (ft r k) v := by
  unfold ftle at hf
  simp only [Bool.and_eq_true, Bool.or_eq_true, beq_iff_eq, decide_eq_true_eq] at hf
  obtain ⟨⟨-, h1⟩, h2 | ⟨⟨h2, h3⟩, h4⟩⟩ := hf
  · obtain ⟨x, hx, hl, hu⟩ := h.1 h2.1.1
    refine ⟨fun _ => ⟨x, hx, by omega, by omega⟩, fun z => ?_, fun z => ?_⟩
    · omega
    · omega
  · rw [h3] at h
    rw [h4]
    refine ⟨fun z => absurd z (by decide), fun z => absurd z (by decide), fun _ => ?_⟩
    rcases h.2.2 rfl with h5 | ⟨a, h5, h6⟩
    · exact Or.inl h5
    · refine Or.inr ⟨a, h5, ?_⟩
      have h7 : rt G a = 12 := h6.elim id id
      rcases of_rtn h7 with h8 | h8
      · exact Or.inl h8
      · exact Or.inl h8
theorem Ok.re {D : DD} {G : Nat → Nat} {E : List (Nat × Nat)} {H H1 : Heap} (hE : eok E = true) (h0 : Ok D G H) (hk : Keep D (rt G) E H H1) (h : Ok D (rt G) H1) : Ok D G H1 := by
  have hE' : ∀ r k, (rtn r, k) ∈ E → ftle (rtn r) r k = true := fun r k hm => by
    have h1 := List.all_eq_true.mp hE _ hm
    simp only [Bool.and_eq_true] at h1
    rcases of_rtn (q := rtn r) rfl with h2 | h2
    · have h3 := h1.1; rwa [← h2] at h3 ⊢
    · have h3 := h1.2; rwa [← h2] at h3
  intro a r ha hr
  have hz : rtn r ≠ 0 := fun z => hr (rtn_0.mp z)
  obtain ⟨c1, c2, c3, c4⟩ := h a (rtn r) (by rw [← ha]; rfl) hz
  have k3 := hk.2.2 a (rtn r) (by rw [← ha]; rfl) hz
  refine ⟨fun ci N hro => ?_, fun t hri => ?_, fun t n q hrr => ?_, c4⟩
  · obtain ⟨V, h1, h2⟩ := c1 ci N (by rw [rtn_ro]; exact hro)
    refine ⟨V, h1, fun k hk9 => ?_⟩
    by_cases hm : (rtn r, k) ∈ E
    · exact vok_re (hE' _ _ hm) (h2 k hk9)
    · have e1 := k3.1 ci N (by rw [rtn_ro]; exact hro) k hk9 hm
      rw [← ob_V h1 hk9, e1]
      exact (h0.ob ha hro hr).2 k hk9
  · obtain ⟨n, f, h1, h2, h3⟩ := c2 t (by rw [rtn_ri]; exact hri)
    exact ⟨n, f, h1, h2, rtn_aok h3⟩
  · by_cases hm : (rtn r, 0) ∈ E
    · have h1 := hE' _ _ hm
      unfold ftle at h1
      simp only [Bool.and_eq_true] at h1
      rw [hrr] at h1
      exact absurd h1.1.1.2 (by simp)
    · have hn : ro (rtn r) = none := by
        rw [rtn_ro]
        cases h9 : ro r with
        | none => rfl
        | some x => exact (ro_rr h9 hrr).elim
      obtain ⟨g, h1, h2⟩ := (h0 a r ha hr).2.2.1 t n q hrr
      exact ⟨g, by rw [k3.2.1 hn hm]; exact h1, h2⟩
theorem Keep.re {D : DD} {G : Nat → Nat} {E E' : List (Nat × Nat)} {H H1 : Heap} (hE : ∀ x ∈ upE E, x ∈ E') (h : Keep D (rt G) E H H1) : Keep D G E' H H1 := by
  refine ⟨h.1, fun q h1 h2 => h.2.1 q h1 (rt_0.mpr h2), fun q r h1 h2 => ?_⟩
  obtain ⟨k1, k2, k3⟩ := h.2.2 q (rtn r) (by rw [← h1]; rfl) (fun z => h2 (rtn_0.mp z))
  exact ⟨fun ci N h3 k h4 h5 => k1 ci N (by rw [rtn_ro]; exact h3) k h4 (fun z => h5 (hE _ (upE_of z))), fun h3 h4 => k2 (by rw [rtn_ro]; exact h3) (fun z => h4 (hE _ (upE_of z))), fun h3 h4 => k3 (by rw [h3]; rfl) (fun z => h4 (hE _ (upE_of (r := 31) (k := 1) z)))⟩
theorem Zs.re {D : DD} {G : Nat → Nat} {U : State} {H : Heap} (h : Zs D G U H) : Zs D (rt G) U H := by
  have e : ∀ q, (rt G q = 0) = (G q = 0) := fun q => propext rt_0
  unfold Zs StrU BytU at h ⊢
  simp only [ne_eq, e]
  exact h
theorem Met.re {l : Launch} {y : MethodName} {ws : List Cond} {rm : Room} {Pc Pc' : Array Value → State → Prop} {Qc Qc' : Array Value → State → Outcome → State → Prop} {mc ms : Nat} {free free' : Addr → Prop} (h : Met l y ws rm Pc Qc mc ms free)
    (hp : ∀ a s, Pc' a s → Pc a s) (hq : ∀ a s o t, Pc' a s → Qc a s o t → Qc' a s o t) (hfr : ∀ q, free q → free' q) : Met l y ws rm Pc' Qc' mc ms free' := by
  intro p e ha hc hk s m args below hf happ hP hK
  obtain ⟨n, o, h1, h2, h3, h4, L, h5, h6⟩ := h p e ha hc hk s m args below hf happ (hp _ _ hP) hK
  exact ⟨n, o, h1, h2, h3, hq _ _ _ _ hP h4, L, h5, fun q hq9 => hfr _ (h6 q hq9)⟩
theorem CE.re {l : Launch} {D : DD} {G : Nat → Nat} {y : MethodName} {cc : ByteArray} {nL : Nat} {ret : Option FieldType} {h : Nat} {av : List Value} {Pre : Heap → Prop} {E E' : List (Nat × Nat)} {post : Heap → Option Value → Heap → Prop}
    (hc : CE l D (rt G) y cc nL ret h av Pre E post) (hE : eok E = true) (hE' : ∀ x ∈ upE E, x ∈ E') : CE l D G y cc nL ret h av (fun H => Ok D (rt G) H ∧ Pre H) E' (fun H v H1 => Ok D (rt G) H1 ∧ post H v H1) :=
  Met.re hc (fun _ _ h => ⟨h.1, h.2.1, h.2.2.1.re, h.2.2.2.2⟩)
    (fun _ _ _ _ hp hq => by
      obtain ⟨v, e1, h1, h2, h3⟩ := hq
      exact ⟨v, e1, Ok.re hE hp.2.2.2.1 h2 h1, h2.re hE', h1, h3⟩)
    (fun q hq => fun z => hq (rt_0.mpr z))
theorem CP.re {l : Launch} {D : DD} {G : Nat → Nat} {y : MethodName} {cc : ByteArray} {nL : Nat} {ret : Option FieldType} {h : Nat} {av : List Value} {Pre : Heap → Prop} {post : Heap → Option Value → Prop}
    (hc : CP l D (rt G) y cc nL ret h av Pre post) : CP l D G y cc nL ret h av (fun H => Ok D (rt G) H ∧ Pre H) post :=
  Met.re hc (fun _ _ h => ⟨h.1, h.2.1, h.2.2.1.re, h.2.2.2.2⟩) (fun _ _ _ _ _ hq => hq) (fun q hq => hq)
