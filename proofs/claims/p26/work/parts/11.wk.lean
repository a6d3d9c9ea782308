theorem SK_congr {f g : Nat → Int32} : ∀ {n i t : Nat}, (∀ j, j < i + n → f j = g j) → SK f n i t → SK g n i t
  | 0, _, _, _, _ => trivial
  | n + 1, i, t, h, hs => by
    have e : g i = f i := (h i (by omega)).symm
    unfold SK at hs ⊢
    rw [e]
    exact ⟨fun c => SK_congr (fun j hj => h j (by omega)) (hs.1 c), fun c d => ⟨(hs.2.1 c d).1, SK_congr (fun j hj => h j (by omega)) (hs.2.1 c d).2⟩, fun c d => ⟨(hs.2.2 c d).1, SK_congr (fun j hj => h j (by omega)) (hs.2.2 c d).2⟩⟩
/-! stores into the reference's rows -/
theorem wok_upd {f : Nat → Int32} (i : Nat) (x : Int32) (h : WOKl f) (h0 : i = 0 → 0 ≤ x.toInt ∧ x.toInt ≤ 6) (h1 : i = 1 → 0 ≤ x.toInt ∧ x.toInt ≤ 12) (h10 : i = 10 → 0 ≤ x.toInt ∧ x.toInt ≤ 60) (hf : ∀ j, j < 12 → i = 42 + 6 * j → 0 ≤ x.toInt ∧ x.toInt ≤ 5) : WOKl (upd f i x) := by
  obtain ⟨w1, w2, w3, w4⟩ := h
  unfold upd
  refine ⟨?_, ?_, ?_, fun j hj => ?_⟩
  · by_cases h : 0 = i
    · simp only [if_pos h]; exact h0 h.symm
    · simp only [if_neg h]; exact w1
  · by_cases h : 1 = i
    · simp only [if_pos h]; exact h1 h.symm
    · simp only [if_neg h]; exact w2
  · by_cases h : 10 = i
    · simp only [if_pos h]; exact h10 h.symm
    · simp only [if_neg h]; exact w3
  · by_cases h : 42 + 6 * j = i
    · simp only [if_pos h]; exact hf j hj h.symm
    · simp only [if_neg h]; exact w4 j hj
/-- a store ahead of the law: what it must be, by its place -/
theorem wk_low {n : Nat} {f : Nat → Int32} (i : Nat) (x : Int32) (hi : i < 354) (h0 : i = 0 → 0 ≤ x.toInt ∧ x.toInt ≤ 6) (h1 : i = 1 → 0 ≤ x.toInt ∧ x.toInt ≤ 12) (h10 : i = 10 → 0 ≤ x.toInt ∧ x.toInt ≤ 60) (hf : ∀ j, j < 12 → i = 42 + 6 * j → 0 ≤ x.toInt ∧ x.toInt ≤ 5) (h : aok 31 n f) : aok 31 n (upd f i x) := by
  obtain ⟨g1, w, w5, w6⟩ := h
  have e : ∀ k : Nat, k ≠ i → upd f i x k = f k := fun k hk => by simp [upd, hk]
  refine ⟨g1, wok_upd i x w h0 h1 h10 hf, by rw [e 354 (by omega)]; exact w5, fun k hk => ?_⟩
  rw [e 354 (by omega)] at hk
  obtain ⟨b, e9, h1, h2, h3, h4, h5⟩ := w6 k hk
  have ee : (fun i_1 => upd f i x (403 + 2 * i_1)) = (fun i_1 => f (403 + 2 * i_1)) := by
    funext q
    exact e _ (by omega)
  exact ⟨b, e9, by rw [e _ (by omega)]; exact h1, by rw [e _ (by omega)]; exact h2, h3, h4, by rw [ee]; exact h5⟩
/-- behind the law: no place is bound -/
theorem wk_high {n : Nat} {f : Nat → Int32} (i : Nat) (x : Int32) (hi : 1203 ≤ i) (h : aok 31 n f) : aok 31 n (upd f i x) := by
  obtain ⟨g1, w, w5, w6⟩ := h
  have e : ∀ k : Nat, k ≠ i → upd f i x k = f k := fun k hk => by simp [upd, hk]
  refine ⟨g1, wok_upd i x w (fun h => by omega) (fun h => by omega) (fun h => by omega) (fun j hj h => by omega), by rw [e 354 (by omega)]; exact w5, fun k hk => ?_⟩
  rw [e 354 (by omega)] at hk
  obtain ⟨b, e9, h1, h2, h3, h4, h5⟩ := w6 k hk
  have hk12 : k < 12 := by omega
  refine ⟨b, e9, by rw [e _ (by omega)]; exact h1, by rw [e _ (by omega)]; exact h2, h3, h4, ?_⟩
  exact SK_congr (fun j hj => (e _ (by omega)).symm) h5
/-- what a row that keeps the part ahead of the law holds at a place -/
theorem wok_at {f : Nat → Int32} (h : WOKl f) (i : Nat) : (i = 0 → 0 ≤ (f i).toInt ∧ (f i).toInt ≤ 6) ∧ (i = 1 → 0 ≤ (f i).toInt ∧ (f i).toInt ≤ 12) ∧ (i = 10 → 0 ≤ (f i).toInt ∧ (f i).toInt ≤ 60) ∧ ∀ j, j < 12 → i = 42 + 6 * j → 0 ≤ (f i).toInt ∧ (f i).toInt ≤ 5 :=
  ⟨fun h9 => by subst h9; exact h.1, fun h9 => by subst h9; exact h.2.1, fun h9 => by subst h9; exact h.2.2.1, fun j hj h9 => by subst h9; exact h.2.2.2 j hj⟩
section
variable {D : DD} {G : Nat → Nat} {H : Heap} {a : Nat}
theorem wa_31 (hO : Ok D G H) (ha : G a = 31) (i : Nat) (hi : i < 354) : (i = 0 → 0 ≤ (eI H a i).toInt ∧ (eI H a i).toInt ≤ 6) ∧ (i = 1 → 0 ≤ (eI H a i).toInt ∧ (eI H a i).toInt ≤ 12) ∧ (i = 10 → 0 ≤ (eI H a i).toInt ∧ (eI H a i).toInt ≤ 60) ∧ ∀ j, j < 12 → i = 42 + 6 * j → 0 ≤ (eI H a i).toInt ∧ (eI H a i).toInt ≤ 5 := by
  obtain ⟨f, -, -, h, h4⟩ := hO.ia ha rfl
  rw [h4 i (by rw [h.1]; omega)]
  exact wok_at h.2.1 i
theorem wa_34 (hO : Ok D G H) (ha : G a = 34) (i : Nat) (hi : i < 354) : (i = 0 → 0 ≤ (eI H a i).toInt ∧ (eI H a i).toInt ≤ 6) ∧ (i = 1 → 0 ≤ (eI H a i).toInt ∧ (eI H a i).toInt ≤ 12) ∧ (i = 10 → 0 ≤ (eI H a i).toInt ∧ (eI H a i).toInt ≤ 60) ∧ ∀ j, j < 12 → i = 42 + 6 * j → 0 ≤ (eI H a i).toInt ∧ (eI H a i).toInt ≤ 5 := by
  obtain ⟨f, -, -, h, h4⟩ := hO.ia ha rfl
  rw [h4 i (by rw [h.1]; omega)]
  exact wok_at h.2 i
theorem wa_35 (hO : Ok D G H) (ha : G a = 35) (b i : Nat) (hb : b < 12) (hi : i < 354) : (i = 0 → 0 ≤ (eI H a (354 * b + i)).toInt ∧ (eI H a (354 * b + i)).toInt ≤ 6) ∧ (i = 1 → 0 ≤ (eI H a (354 * b + i)).toInt ∧ (eI H a (354 * b + i)).toInt ≤ 12) ∧ (i = 10 → 0 ≤ (eI H a (354 * b + i)).toInt ∧ (eI H a (354 * b + i)).toInt ≤ 60) ∧ ∀ j, j < 12 → i = 42 + 6 * j → 0 ≤ (eI H a (354 * b + i)).toInt ∧ (eI H a (354 * b + i)).toInt ≤ 5 := by
  obtain ⟨f, -, -, h, h4⟩ := hO.ia ha rfl
  rw [h4 (354 * b + i) (by rw [h.1]; omega)]
  exact wok_at (h.2 b hb) i
theorem wk_34 {n : Nat} {f : Nat → Int32} (i : Nat) (x : Int32) (hw : (i = 0 → 0 ≤ x.toInt ∧ x.toInt ≤ 6) ∧ (i = 1 → 0 ≤ x.toInt ∧ x.toInt ≤ 12) ∧ (i = 10 → 0 ≤ x.toInt ∧ x.toInt ≤ 60) ∧ ∀ j, j < 12 → i = 42 + 6 * j → 0 ≤ x.toInt ∧ x.toInt ≤ 5) (h : aok 34 n f) : aok 34 n (upd f i x) :=
  ⟨h.1, wok_upd i x h.2 hw.1 hw.2.1 hw.2.2.1 hw.2.2.2⟩
theorem wk_31 {n : Nat} {f : Nat → Int32} (i : Nat) (x : Int32) (hi : i < 354) (hw : (i = 0 → 0 ≤ x.toInt ∧ x.toInt ≤ 6) ∧ (i = 1 → 0 ≤ x.toInt ∧ x.toInt ≤ 12) ∧ (i = 10 → 0 ≤ x.toInt ∧ x.toInt ≤ 60) ∧ ∀ j, j < 12 → i = 42 + 6 * j → 0 ≤ x.toInt ∧ x.toInt ≤ 5) (h : aok 31 n f) : aok 31 n (upd f i x) :=
  wk_low i x hi hw.1 hw.2.1 hw.2.2.1 hw.2.2.2 h
theorem wk_35 {n : Nat} {f : Nat → Int32} (b i : Nat) (x : Int32) (hb : b < 12) (hi : i < 354) (hw : (i = 0 → 0 ≤ x.toInt ∧ x.toInt ≤ 6) ∧ (i = 1 → 0 ≤ x.toInt ∧ x.toInt ≤ 12) ∧ (i = 10 → 0 ≤ x.toInt ∧ x.toInt ≤ 60) ∧ ∀ j, j < 12 → i = 42 + 6 * j → 0 ≤ x.toInt ∧ x.toInt ≤ 5) {k : Nat} (hk : k = 354 * b + i) (h : aok 35 n f) : aok 35 n (upd f k x) := by
  subst hk
  refine ⟨h.1, fun j hj => ?_⟩
  by_cases hjb : j = b
  · subst hjb
    have e : (fun q => upd f (354 * j + i) x (354 * j + q)) = upd (fun q => f (354 * j + q)) i x := by
      funext q
      unfold upd
      by_cases hq : q = i
      · subst hq; simp
      · rw [if_neg hq, if_neg (by omega)]
    rw [e]
    exact wok_upd i x (h.2 j hj) hw.1 hw.2.1 hw.2.2.1 hw.2.2.2
  · have e : ∀ q, q < 354 → upd f (354 * b + i) x (354 * j + q) = f (354 * j + q) := by
      intro q hq
      unfold upd
      rw [if_neg]
      intro h9
      apply hjb
      omega
    obtain ⟨w1, w2, w3, w4⟩ := h.2 j hj
    exact ⟨by dsimp only at w1 ⊢; rw [e 0 (by omega)]; exact w1, by dsimp only at w2 ⊢; rw [e 1 (by omega)]; exact w2, by dsimp only at w3 ⊢; rw [e 10 (by omega)]; exact w3, fun t ht => by have w5 := w4 t ht; dsimp only at w5 ⊢; rw [e _ (by omega)]; exact w5⟩
end
