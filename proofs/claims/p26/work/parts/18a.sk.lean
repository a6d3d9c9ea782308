/-! the reference reads a law: steps, and the stack that they run over -/
abbrev wA (D : DD) (H : Heap) (a : Nat) : Nat := fR D H 11 a 1
def Cs (D : DD) (H : Heap) (a k : Nat) : Int32 := eI H (wA D H a) (1252 + 2 * k)
def St (f : Nat → Int32) : Nat → Nat → Nat → Option Nat
  | 0, _, t => some t
  | n + 1, i, t => if (f i).toInt ≤ 11 then St f n (i + 1) (t + 1) else if (f i).toInt = 15 then (if 1 ≤ t then St f n (i + 1) t else none) else (if 2 ≤ t then St f n (i + 1) (t - 1) else none)
theorem St.sk {f : Nat → Int32} : ∀ n i t t', St f n i t = some t' → SK f n i t
  | 0, _, _, _, _ => True.intro
  | n + 1, i, t, t', h => by
    unfold St at h
    unfold SK
    by_cases h1 : (f i).toInt ≤ 11
    · rw [if_pos h1] at h
      exact ⟨fun _ => St.sk n _ _ _ h, fun z => absurd h1 z, fun z => absurd h1 z⟩
    · rw [if_neg h1] at h
      by_cases h2 : (f i).toInt = 15
      · rw [if_pos h2] at h
        by_cases h3 : 1 ≤ t
        · rw [if_pos h3] at h
          exact ⟨fun z => absurd z h1, fun _ _ => ⟨h3, St.sk n _ _ _ h⟩, fun _ z => absurd h2 z⟩
        · rw [if_neg h3] at h; cases h
      · rw [if_neg h2] at h
        by_cases h3 : 2 ≤ t
        · rw [if_pos h3] at h
          exact ⟨fun z => absurd z h1, fun _ z => absurd z h2, fun _ _ => ⟨h3, St.sk n _ _ _ h⟩⟩
        · rw [if_neg h3] at h; cases h
theorem St.app {f : Nat → Int32} : ∀ n m i t t1 t2, St f n i t = some t1 → St f m (i + n) t1 = some t2 → St f (n + m) i t = some t2
  | 0, m, i, t, t1, t2, h, k => by
    have h : some t = some t1 := h
    cases h
    rw [Nat.zero_add]
    exact k
  | n + 1, m, i, t, t1, t2, h, k => by
    rw [show n + 1 + m = (n + m) + 1 by omega]
    unfold St at h ⊢
    have k' : St f m (i + 1 + n) t1 = some t2 := by rw [show i + 1 + n = i + (n + 1) by omega]; exact k
    by_cases h1 : (f i).toInt ≤ 11
    · rw [if_pos h1] at h ⊢
      exact St.app n m _ _ _ _ h k'
    · rw [if_neg h1] at h ⊢
      by_cases h2 : (f i).toInt = 15
      · rw [if_pos h2] at h ⊢
        by_cases h3 : 1 ≤ t
        · rw [if_pos h3] at h ⊢; exact St.app n m _ _ _ _ h k'
        · rw [if_neg h3] at h; cases h
      · rw [if_neg h2] at h ⊢
        by_cases h3 : 2 ≤ t
        · rw [if_pos h3] at h ⊢; exact St.app n m _ _ _ _ h k'
        · rw [if_neg h3] at h; cases h
theorem St.congr {f g : Nat → Int32} : ∀ n i t, (∀ k, i ≤ k → k < i + n → g k = f k) → St g n i t = St f n i t
  | 0, _, _, _ => rfl
  | n + 1, i, t, h => by
    unfold St
    rw [h i (Nat.le_refl _) (by omega), St.congr n (i + 1) (t + 1) (fun k h1 h2 => h k (by omega) (by omega)), St.congr n (i + 1) t (fun k h1 h2 => h k (by omega) (by omega)), St.congr n (i + 1) (t - 1) (fun k h1 h2 => h k (by omega) (by omega))]
/-- the steps from i up to j put one more onto any stack -/
def Ex (f : Nat → Int32) (i j : Nat) : Prop := i ≤ j ∧ ∀ t, St f (j - i) i t = some (t + 1)
theorem Ex.congr {f g : Nat → Int32} {i j : Nat} (h : Ex f i j) (hg : ∀ k, i ≤ k → k < j → g k = f k) : Ex g i j := ⟨h.1, fun t => by rw [St.congr _ _ _ (fun k h1 h2 => hg k h1 (by have := h.1; omega))]; exact h.2 t⟩
theorem Ex.one {f : Nat → Int32} {i j : Nat} (h : (f i).toInt ≤ 11) (hj : j = i + 1) : Ex f i j := by
  subst hj
  refine ⟨by omega, fun t => ?_⟩
  rw [show i + 1 - i = 0 + 1 by omega]
  unfold St
  rw [if_pos h]
  rfl
theorem Ex.un {f : Nat → Int32} {i j k : Nat} (h : Ex f i j) (ho : (f j).toInt = 15) (hk : k = j + 1) : Ex f i k := by
  subst hk
  refine ⟨by have := h.1; omega, fun t => ?_⟩
  rw [show j + 1 - i = (j - i) + 1 by have := h.1; omega]
  refine St.app _ 1 _ _ _ _ (h.2 t) ?_
  rw [show i + (j - i) = j by have := h.1; omega]
  unfold St
  rw [if_neg (by omega), if_pos ho, if_pos (by omega)]
  rfl
theorem Ex.bin {f : Nat → Int32} {i j k n : Nat} (h : Ex f i j) (h2 : Ex f j k) (ho : 12 ≤ (f k).toInt ∧ (f k).toInt ≠ 15) (hn : n = k + 1) : Ex f i n := by
  subst hn
  refine ⟨by have := h.1; have := h2.1; omega, fun t => ?_⟩
  rw [show k + 1 - i = (j - i) + ((k - j) + 1) by have := h.1; have := h2.1; omega]
  refine St.app _ _ _ _ _ _ (h.2 t) ?_
  rw [show i + (j - i) = j by have := h.1; omega]
  refine St.app _ 1 _ _ _ _ (h2.2 (t + 1)) ?_
  rw [show j + (k - j) = k by have := h2.1; omega]
  unfold St
  rw [if_neg (by omega), if_neg ho.2, if_pos (by omega)]
  rfl
/-- what was told stays: the world's low part, the lines, the steps so far -/
def Lq (D : DD) (H H1 : Heap) (a : Nat) : Prop := (fI D H 11 a 16).toInt ≤ (fI D H1 11 a 16).toInt ∧ ∀ j : Nat, (j : Int) < 1252 + 2 * (fI D H 11 a 16).toInt → eI H1 (wA D H1 a) j = eI H (wA D H a) j
theorem Lq.refl {D : DD} {H : Heap} {a : Nat} : Lq D H H a := ⟨Int.le_refl _, fun _ _ => rfl⟩
theorem Lq.trans {D : DD} {H H1 H2 : Heap} {a : Nat} (h : Lq D H H1 a) (k : Lq D H1 H2 a) : Lq D H H2 a := ⟨Int.le_trans h.1 k.1, fun j hj => (k.2 j (by have := h.1; omega)).trans (h.2 j hj)⟩
theorem eK {D : DD} {G : Nat → Nat} {E : List (Nat × Nat)} {H H1 : Heap} {a : Nat} (hO : Ok D G H) (ga : G a = 30) (K : Keep D G E H H1) (h1 : (30, 1) ∉ E) (h3 : (31, 0) ∉ E) (j : Nat) : eI H1 (wA D H1 a) j = eI H (wA D H a) j := by
  show eI H1 (fR D H1 11 a 1) j = _
  rw [K.fR ga rfl (by decide) h1]
  exact congrArg vI (eV_of (K.c (hO.rol ga rfl (by decide) rfl) rfl h3) j)
theorem Lq.keep {D : DD} {G : Nat → Nat} {E : List (Nat × Nat)} {H H1 : Heap} {a : Nat} (hO : Ok D G H) (ga : G a = 30) (K : Keep D G E H H1) (h1 : (30, 1) ∉ E) (h2 : (30, 16) ∉ E) (h3 : (31, 0) ∉ E) : Lq D H H1 a := by
  refine ⟨?_, fun j _ => eK hO ga K h1 h3 j⟩
  show (fI D H 11 a 16).toInt ≤ (fI D H1 11 a 16).toInt
  rw [K.fI ga rfl (by decide) h2]
  exact Int.le_refl _
theorem Lq.put {D : DD} {G : Nat → Nat} {H H1 : Heap} {a k : Nat} {v : Value} (hO : Ok D G H) (ga : G a = 30) (P : Pt D H H1 11 18 a k v) (h1 : k ≠ 1) (h2 : k ≠ 16) : Lq D H H1 a := by
  have gw : G (fR D H 11 a 1) = 31 := hO.rol ga rfl (by decide) rfl
  refine ⟨?_, fun j _ => ?_⟩
  · show (fI D H 11 a 16).toInt ≤ (fI D H1 11 a 16).toInt
    rw [P.o (j := 16) (by decide) (fun z => h2 z.symm)]
    exact Int.le_refl _
  · show eI H1 (fR D H1 11 a 1) j = eI H (fR D H 11 a 1) j
    rw [P.or (j := 1) (by decide) (fun z => h1 z.symm), P.e (ne_role gw ga (by decide))]
theorem Lq.cs {D : DD} {H H1 : Heap} {a : Nat} (h : Lq D H H1 a) {k : Nat} (hk : (k : Int) < (fI D H 11 a 16).toInt) : Cs D H1 a k = Cs D H a k := h.2 (1252 + 2 * k) (by omega)
theorem Lq.ex {D : DD} {H H1 : Heap} {a i j : Nat} (h : Lq D H H1 a) (he : Ex (Cs D H a) i j) (hj : (j : Int) ≤ (fI D H 11 a 16).toInt) : Ex (Cs D H1 a) i j := he.congr (fun k _ h2 => h.cs (by omega))
/-- emits: two elements, then the count -/
theorem Lq.emit {D : DD} {G : Nat → Nat} {H H1 H2 H3 : Heap} {a i i2 : Nat} {x x2 y : Int32} (hO : Ok D G H) (hO1 : Ok D G H1) (hO2 : Ok D G H2) (ga : G a = 30) (P : Pa H H1 (fR D H 11 a 1) i x) (hi : (i : Int) = 1252 + 2 * (fI D H 11 a 16).toInt) (h400 : (fI D H 11 a 16).toInt ≤ 399) (h0 : 0 ≤ (fI D H 11 a 16).toInt)
    (P2 : Pa H1 H2 (fR D H1 11 a 1) i2 x2) (hi2 : i2 = i + 1) (P3 : Pt D H2 H3 11 18 a 16 (.int y)) (hy : y.toInt = (fI D H 11 a 16).toInt + 1) : (fI D H3 11 a 16).toInt = (fI D H 11 a 16).toInt + 1 ∧ Cs D H3 a ((fI D H 11 a 16).toInt).toNat = x ∧ Lq D H H3 a := by
  have gw : G (fR D H 11 a 1) = 31 := hO.rol ga rfl (by decide) rfl
  have gw1 : G (fR D H1 11 a 1) = 31 := hO1.rol ga rfl (by decide) rfl
  have gw2 : G (fR D H2 11 a 1) = 31 := hO2.rol ga rfl (by decide) rfl
  have hn : aN H (fR D H 11 a 1) = 2052 := len_31 hO gw
  have hn1 : aN H1 (fR D H1 11 a 1) = 2052 := len_31 hO1 gw1
  have e1 : fR D H1 11 a 1 = fR D H 11 a 1 := P.r (ne_role ga gw (by decide))
  have e2 : fR D H2 11 a 1 = fR D H1 11 a 1 := P2.r (ne_role ga gw1 (by decide))
  have e3 : fR D H3 11 a 1 = fR D H2 11 a 1 := P3.or (j := 1) (by decide) (by decide)
  have es : (fI D H3 11 a 16).toInt = (fI D H 11 a 16).toInt + 1 := by
    show (fI D H3 11 a 16).toInt = _
    rw [P3.i]; exact hy
  have ev : ∀ j : Nat, j < 2052 → eI H3 (fR D H3 11 a 1) j = if j = i2 then x2 else if j = i then x else eI H (fR D H 11 a 1) j := fun j hj => by
    rw [e3, P3.e (ne_role gw2 ga (by decide)), e2, P2.1 j (by omega), e1, P.1 j (by omega)]
  refine ⟨es, ?_, by omega, fun j hj => ?_⟩
  · show eI H3 (fR D H3 11 a 1) _ = x
    rw [ev _ (by omega), if_neg (by omega), if_pos (by omega)]
  · show eI H3 (fR D H3 11 a 1) j = eI H (fR D H 11 a 1) j
    rw [ev j (by omega), if_neg (by omega), if_neg (by omega)]
/-- a line that was read -/
def Dl (D : DD) (H : Heap) (a n : Nat) : Prop := ∀ m, m < n → ∃ b e : Nat, (eI H (wA D H a) (1206 + 4 * m)).toInt = b ∧ (eI H (wA D H a) (1207 + 4 * m)).toInt = e ∧ b ≤ e ∧ (e : Int) ≤ (fI D H 11 a 16).toInt ∧ SK (Cs D H a) (e - b) b 0
theorem SK.congr {f g : Nat → Int32} : ∀ n i t, (∀ k, i ≤ k → k < i + n → g k = f k) → SK f n i t → SK g n i t
  | 0, _, _, _, _ => True.intro
  | n + 1, i, t, h, hs => by
    unfold SK at hs ⊢
    rw [h i (Nat.le_refl _) (by omega)]
    have h' : ∀ k, i + 1 ≤ k → k < i + 1 + n → g k = f k := fun k h1 h2 => h k (by omega) (by omega)
    exact ⟨fun z => SK.congr n _ _ h' (hs.1 z), fun z z2 => ⟨(hs.2.1 z z2).1, SK.congr n _ _ h' (hs.2.1 z z2).2⟩, fun z z2 => ⟨(hs.2.2 z z2).1, SK.congr n _ _ h' (hs.2.2 z z2).2⟩⟩
theorem Dl.lq {D : DD} {H H1 : Heap} {a n : Nat} (h : Dl D H a n) (k : Lq D H H1 a) (hn : n ≤ 12) (h0 : 0 ≤ (fI D H 11 a 16).toInt) : Dl D H1 a n := fun m hm => by
  obtain ⟨b, e, h1, h2, h3, h4, h5⟩ := h m hm
  have hm12 : m < 12 := by omega
  refine ⟨b, e, by rw [k.2 _ (by omega)]; exact h1, by rw [k.2 _ (by omega)]; exact h2, h3, by have := k.1; omega, ?_⟩
  exact SK.congr _ _ _ (fun j h6 h7 => k.cs (by omega)) h5
theorem Ex.at {f : Nat → Int32} {i j i' j' : Nat} (h : Ex f i j) (hi : i' = i) (hj : j' = j) : Ex f i' j' := by subst hi; subst hj; exact h
theorem eA {D : DD} {G : Nat → Nat} {H H1 : Heap} {a i j : Nat} {x : Int32} (hO : Ok D G H) (ga : G a = 30) (P : Pa H H1 (fR D H 11 a 1) i x) (hj : j ≠ i) (h2 : j < 2052) : eI H1 (fR D H1 11 a 1) j = eI H (fR D H 11 a 1) j := by
  have gw : G (fR D H 11 a 1) = 31 := hO.rol ga rfl (by decide) rfl
  have hn : aN H (fR D H 11 a 1) = 2052 := len_31 hO gw
  rw [P.r (ne_role ga gw (by decide)), P.1 j (by omega), if_neg hj]
/-- what was told stays, but for line n -/
def Lr (D : DD) (H H1 : Heap) (a n : Nat) : Prop := (fI D H 11 a 16).toInt ≤ (fI D H1 11 a 16).toInt ∧ ∀ j : Nat, (j : Int) < 1252 + 2 * (fI D H 11 a 16).toInt → (j < 1204 + 4 * n ∨ 1208 + 4 * n ≤ j) → eI H1 (wA D H1 a) j = eI H (wA D H a) j
theorem Lr.refl {D : DD} {H : Heap} {a n : Nat} : Lr D H H a n := ⟨Int.le_refl _, fun _ _ _ => rfl⟩
theorem Lr.trans {D : DD} {H H1 H2 : Heap} {a n : Nat} (h : Lr D H H1 a n) (k : Lr D H1 H2 a n) : Lr D H H2 a n := ⟨Int.le_trans h.1 k.1, fun j hj h2 => (k.2 j (by have := h.1; omega) h2).trans (h.2 j hj h2)⟩
theorem Lr.of {D : DD} {H H1 : Heap} {a n : Nat} (h : Lq D H H1 a) : Lr D H H1 a n := ⟨h.1, fun j hj _ => h.2 j hj⟩
theorem Lr.ast {D : DD} {G : Nat → Nat} {H H1 : Heap} {a n i A : Nat} {x : Int32} (hO : Ok D G H) (ga : G a = 30) (P : Pa H H1 A i x) (eA9 : A = fR D H 11 a 1) (hi : 1204 + 4 * n ≤ i ∧ i < 1208 + 4 * n) (h0 : (fI D H 11 a 16).toInt ≤ 400) : Lr D H H1 a n := by
  subst eA9
  have gw : G (fR D H 11 a 1) = 31 := hO.rol ga rfl (by decide) rfl
  refine ⟨?_, fun j hj h2 => eA hO ga P (by omega) (by omega)⟩
  show (fI D H 11 a 16).toInt ≤ (fI D H1 11 a 16).toInt
  rw [P.f (ne_role ga gw (by decide))]
  exact Int.le_refl _
theorem Dl.lr {D : DD} {H H1 : Heap} {a n : Nat} (h : Dl D H a n) (k : Lr D H H1 a n) (hn : n ≤ 11) (h0 : 0 ≤ (fI D H 11 a 16).toInt) : Dl D H1 a n := fun m hm => by
  obtain ⟨b, e, h1, h2, h3, h4, h5⟩ := h m hm
  have hm12 : m < 12 := by omega
  refine ⟨b, e, by rw [k.2 _ (by omega) (by omega)]; exact h1, by rw [k.2 _ (by omega) (by omega)]; exact h2, h3, by have := k.1; omega, ?_⟩
  exact SK.congr _ _ _ (fun j h6 h7 => k.2 (1252 + 2 * j) (by omega) (by omega)) h5
theorem Dl.line {D : DD} {H H1 : Heap} {a n b e : Nat} (h : Dl D H a n) (k : Lr D H H1 a n) (hn : n ≤ 11) (h0 : 0 ≤ (fI D H 11 a 16).toInt) (hb : (eI H1 (wA D H1 a) (1206 + 4 * n)).toInt = b) (he : (eI H1 (wA D H1 a) (1207 + 4 * n)).toInt = e) (hbe : b ≤ e) (h4 : (e : Int) ≤ (fI D H1 11 a 16).toInt) (hs : SK (Cs D H1 a) (e - b) b 0) : Dl D H1 a (n + 1) := fun m hm => by
  by_cases hmn : m < n
  · exact h.lr k (by omega) h0 m hmn
  · have : m = n := by omega
    subst this
    exact ⟨b, e, hb, he, hbe, h4, hs⟩
theorem csA {D : DD} {G : Nat → Nat} {H H1 : Heap} {a i k A : Nat} {x : Int32} (hO : Ok D G H) (ga : G a = 30) (P : Pa H H1 A i x) (eA9 : A = fR D H 11 a 1) (hi : i < 1252) (hk : k < 400) : Cs D H1 a k = Cs D H a k := by
  subst eA9
  exact eA hO ga P (by omega) (by omega)
/-- what an element store leaves at its own place -/
theorem eS {D : DD} {G : Nat → Nat} {H H1 : Heap} {a i j A : Nat} {x : Int32} (hO : Ok D G H) (ga : G a = 30) (P : Pa H H1 A i x) (eA9 : A = fR D H 11 a 1) (hj : j = i) (h2 : j < 2052) : eI H1 (fR D H1 11 a 1) j = x := by
  subst eA9
  have gw : G (fR D H 11 a 1) = 31 := hO.rol ga rfl (by decide) rfl
  have hn : aN H (fR D H 11 a 1) = 2052 := len_31 hO gw
  rw [P.r (ne_role ga gw (by decide)), P.1 j (by omega), if_pos hj]
theorem Ex.sk {D : DD} {H H1 : Heap} {a i j : Nat} (h : Ex (Cs D H a) i j) (hc : ∀ k, k < j → Cs D H1 a k = Cs D H a k) : SK (Cs D H1 a) (j - i) i 0 :=
  SK.congr _ _ _ (fun k h1 h2 => hc k (by have := h.1; omega)) (St.sk _ _ _ _ (h.2 0))
