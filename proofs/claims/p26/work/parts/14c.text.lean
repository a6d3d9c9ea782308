/-! texts, and what both readers see in them: bytes by place (what is no 7-bit byte counts as 200), the length -/
abbrev Tx : Type := (Nat → Int) × Nat
def nrm (x : Int) : Int := if 0 ≤ x ∧ x ≤ 127 then x else 200
theorem nrm_eq {x c : Int} (hc : 0 ≤ c ∧ c ≤ 127) : nrm x = c ↔ x = c := by unfold nrm; split <;> omega
theorem nrm_rg {x a b : Int} (ha : 0 ≤ a) (hb : b ≤ 127) : (a ≤ nrm x ∧ nrm x ≤ b) ↔ (a ≤ x ∧ x ≤ b) := by unfold nrm; split <;> omega
def tbl (T : Tx) (i : Nat) : Bool := decide (i < T.2 ∧ T.1 i = 32)
def tle (T : Tx) (i : Nat) : Bool := decide (i < T.2 ∧ 97 ≤ T.1 i ∧ T.1 i ≤ 122)
def tdi (T : Tx) (i : Nat) : Bool := decide (i < T.2 ∧ 48 ≤ T.1 i ∧ T.1 i ≤ 57)
section Tokens
variable {T : Tx} {i b p q c : Nat}
theorem tbl_t : tbl T i = true ↔ (i < T.2 ∧ T.1 i = 32) := by unfold tbl; exact decide_eq_true_iff
theorem tle_t : tle T i = true ↔ (i < T.2 ∧ 97 ≤ T.1 i ∧ T.1 i ≤ 122) := by unfold tle; exact decide_eq_true_iff
theorem tdi_t : tdi T i = true ↔ (i < T.2 ∧ 48 ≤ T.1 i ∧ T.1 i ≤ 57) := by unfold tdi; exact decide_eq_true_iff
theorem tbl_f : tbl T i = false ↔ ¬ (i < T.2 ∧ T.1 i = 32) := by unfold tbl; exact decide_eq_false_iff_not
theorem tle_f : tle T i = false ↔ ¬ (i < T.2 ∧ 97 ≤ T.1 i ∧ T.1 i ≤ 122) := by unfold tle; exact decide_eq_false_iff_not
theorem tdi_f : tdi T i = false ↔ ¬ (i < T.2 ∧ 48 ≤ T.1 i ∧ T.1 i ≤ 57) := by unfold tdi; exact decide_eq_false_iff_not
end Tokens
/-- where a run ends -/
def rn (P : Nat → Bool) : Nat → Nat → Nat
  | 0, p => p
  | k + 1, p => if P p = true then rn P k (p + 1) else p
theorem rn_of {P : Nat → Bool} {q : Nat} (hq : P q = false) : ∀ (k p : Nat), p ≤ q → (∀ i, p ≤ i → i < q → P i = true) → q < p + k → rn P k p = q
  | 0, p, h1, _, h3 => by omega
  | k + 1, p, h1, h2, h3 => by
    unfold rn
    by_cases e : p = q
    · rw [if_neg (by rw [e, hq]; decide)]
      exact e
    · rw [if_pos (h2 p (Nat.le_refl p) (by omega))]
      exact rn_of hq k (p + 1) (by omega) (fun i a b => h2 i (by omega) b) (by omega)
theorem rn_ge {P : Nat → Bool} : ∀ (k p : Nat), p ≤ rn P k p
  | 0, p => Nat.le_refl p
  | k + 1, p => by
    unfold rn
    split
    · exact Nat.le_trans (Nat.le_succ p) (rn_ge k (p + 1))
    · exact Nat.le_refl p
theorem rn_all {P : Nat → Bool} : ∀ (k p i : Nat), p ≤ i → i < rn P k p → P i = true
  | 0, p, i, h1, h2 => by
    have h2 : i < p := h2
    omega
  | k + 1, p, i, h1, h2 => by
    unfold rn at h2
    split at h2
    · rename_i h
      by_cases e : i = p
      · rw [e]; exact h
      · exact rn_all k (p + 1) i (by omega) h2
    · omega
theorem rn_end {P : Nat → Bool} {L : Nat} (hL : ∀ i, L ≤ i → P i = false) : ∀ (k p : Nat), L < p + k → P (rn P k p) = false
  | 0, p, h => hL p (by omega)
  | k + 1, p, h => by
    unfold rn
    split
    · exact rn_end hL k (p + 1) (by omega)
    · rename_i h
      exact Bool.eq_false_iff.mpr h
theorem rn_lt {P : Nat → Bool} {k p : Nat} (h : P p = true) : p < rn P (k + 1) p := by
  unfold rn
  rw [if_pos h]
  exact Nat.lt_of_lt_of_le (Nat.lt_succ_self p) (rn_ge k (p + 1))
/-- blanks are passed; what a thing is (0 the end, 1 a word, 2 a number, 3 a sign), where it ends, its number, the next thing -/
def sk (T : Tx) (p : Nat) : Nat := rn (tbl T) 500 p
def kd (T : Tx) (b : Nat) : Int := if tle T b = true then 1 else if tdi T b = true then 2 else if b < T.2 then 3 else 0
def af (T : Tx) (b : Nat) : Nat := if tle T b = true then rn (tle T) 500 b else if tdi T b = true then rn (tdi T) 500 b else if b < T.2 then b + 1 else b
def dc (T : Tx) (b : Nat) : Nat → Int
  | 0 => 0
  | k + 1 => dc T b k * 10 + (T.1 (b + k) - 48)
def nv (T : Tx) (b : Nat) : Int := if af T b - b ≤ 3 then dc T b (af T b - b) else 1000
def nx (T : Tx) (b : Nat) : Nat := sk T (af T b)
def eqw (T : Tx) (b : Nat) (w : List Nat) : Bool := (List.range w.length).all (fun j => decide (T.1 (b + j) = ((w.getD j 0 : Nat) : Int)))
def isW (T : Tx) (b : Nat) (w : List Nat) : Bool := decide (kd T b = 1 ∧ af T b = b + w.length) && eqw T b w
def isS (T : Tx) (b : Nat) (c : Int) : Bool := decide (b < T.2 ∧ T.1 b = c)
def num (T : Tx) (b : Nat) (lo hi : Int) : Int := if kd T b = 2 ∧ lo ≤ nv T b ∧ nv T b ≤ hi then nv T b else -1
abbrev sgn (c : Int) : Prop := (0 ≤ c ∧ c ≤ 127) ∧ ¬ (97 ≤ c ∧ c ≤ 122) ∧ ¬ (48 ≤ c ∧ c ≤ 57)
section Tokens2
variable {T : Tx} {i b p q : Nat}
theorem sk_of (h1 : p ≤ q) (h2 : ∀ i, p ≤ i → i < q → tbl T i = true) (h3 : tbl T q = false) (h4 : q ≤ 400) : sk T p = q := rn_of h3 500 p h1 h2 (by omega)
theorem sk_stop (hT : T.2 ≤ 400) : tbl T (sk T p) = false := rn_end (P := tbl T) (L := T.2) (fun i hi => tbl_f.mpr (by omega)) 500 p (by omega)
theorem sk_ge : p ≤ sk T p := rn_ge 500 p
theorem sk_idem (hT : T.2 ≤ 400) : sk T (sk T p) = sk T p := by
  exact rn_of (q := sk T p) (sk_stop hT) 500 (sk T p) (Nat.le_refl _) (fun i h1 h2 => by omega) (by omega)
theorem sk_le (h : p ≤ T.2) : sk T p ≤ T.2 := by
  apply Classical.byContradiction
  intro z
  have h2 := tbl_t.mp (rn_all (P := tbl T) 500 p T.2 h (Nat.lt_of_not_le z))
  omega
theorem kd_w : kd T b = 1 ↔ tle T b = true := by
  unfold kd
  constructor
  · intro h
    split at h
    · assumption
    · split at h
      · exact absurd h (by decide)
      · split at h <;> exact absurd h (by decide)
  · intro h
    rw [if_pos h]
theorem kd_n : kd T b = 2 ↔ tdi T b = true := by
  unfold kd
  constructor
  · intro h
    split at h
    · exact absurd h (by decide)
    · split at h
      · assumption
      · split at h <;> exact absurd h (by decide)
  · intro h
    have := tdi_t.mp h
    rw [if_neg (by rw [tle_f.mpr (by omega)]; decide), if_pos h]
theorem kd_s : kd T b = 3 ↔ (b < T.2 ∧ tle T b = false ∧ tdi T b = false) := by
  unfold kd
  constructor
  · intro h
    split at h
    · exact absurd h (by decide)
    · rename_i h1
      split at h
      · exact absurd h (by decide)
      · rename_i h2
        split at h
        · rename_i h3
          exact ⟨h3, Bool.eq_false_iff.mpr h1, Bool.eq_false_iff.mpr h2⟩
        · exact absurd h (by decide)
  · rintro ⟨h1, h2, h3⟩
    rw [if_neg (by rw [h2]; decide), if_neg (by rw [h3]; decide), if_pos h1]
theorem kd_e : kd T b = 0 ↔ T.2 ≤ b := by
  unfold kd
  constructor
  · intro h
    split at h
    · exact absurd h (by decide)
    · split at h
      · exact absurd h (by decide)
      · split at h
        · exact absurd h (by decide)
        · omega
  · intro h
    rw [if_neg (by rw [tle_f.mpr (by omega)]; decide), if_neg (by rw [tdi_f.mpr (by omega)]; decide), if_neg (by omega)]
theorem af_w (h : kd T b = 1) : af T b = rn (tle T) 500 b := if_pos (kd_w.mp h)
theorem af_n (h : kd T b = 2) : af T b = rn (tdi T) 500 b := by
  have h2 := kd_n.mp h
  have := tdi_t.mp h2
  unfold af
  rw [if_neg (by rw [tle_f.mpr (by omega)]; decide), if_pos h2]
theorem af_s (h : kd T b = 3) : af T b = b + 1 := by
  obtain ⟨h1, h2, h3⟩ := kd_s.mp h
  unfold af
  rw [if_neg (by rw [h2]; decide), if_neg (by rw [h3]; decide), if_pos h1]
theorem af_e (h : kd T b = 0) : af T b = b := by
  have h := kd_e.mp h
  unfold af
  rw [if_neg (by rw [tle_f.mpr (by omega)]; decide), if_neg (by rw [tdi_f.mpr (by omega)]; decide), if_neg (by omega)]
theorem kd_c : kd T b = 0 ∨ kd T b = 1 ∨ kd T b = 2 ∨ kd T b = 3 := by
  unfold kd
  split
  · exact Or.inr (Or.inl rfl)
  · split
    · exact Or.inr (Or.inr (Or.inl rfl))
    · split
      · exact Or.inr (Or.inr (Or.inr rfl))
      · exact Or.inl rfl
theorem kd_b (h : kd T b ≠ 0) : b < T.2 := by
  have : ¬ T.2 ≤ b := fun z => h (kd_e.mpr z)
  omega
theorem af_lt (h : kd T b ≠ 0) : b < af T b := by
  rcases kd_c (T := T) (b := b) with e | e | e | e
  · exact absurd e h
  · rw [af_w e]; exact rn_lt (kd_w.mp e)
  · rw [af_n e]; exact rn_lt (kd_n.mp e)
  · rw [af_s e]; omega
theorem nx_lt (h : kd T b ≠ 0) : b < nx T b := Nat.lt_of_lt_of_le (af_lt h) sk_ge
theorem isW_t {w : List Nat} : isW T b w = true ↔ (kd T b = 1 ∧ af T b = b + w.length) ∧ eqw T b w = true := by
  unfold isW
  rw [Bool.and_eq_true, decide_eq_true_iff]
theorem isW_k {w : List Nat} (h : isW T b w = true) : kd T b = 1 := (isW_t.mp h).1.1
theorem isW_no {w : List Nat} (h : kd T b ≠ 1) : isW T b w = false := Bool.eq_false_iff.mpr (fun z => h (isW_k z))
theorem eqw_t {w : List Nat} : eqw T b w = true ↔ ∀ j, j < w.length → T.1 (b + j) = ((w.getD j 0 : Nat) : Int) := by
  unfold eqw
  rw [List.all_eq_true]
  exact ⟨fun h j hj => of_decide_eq_true (h j (List.mem_range.mpr hj)), fun h j hj => decide_eq_true (h j (List.mem_range.mp hj))⟩
theorem isS_t {c : Int} : isS T b c = true ↔ (b < T.2 ∧ T.1 b = c) := by unfold isS; exact decide_eq_true_iff
theorem isS_f {c : Int} : isS T b c = false ↔ ¬ (b < T.2 ∧ T.1 b = c) := by unfold isS; exact decide_eq_false_iff_not
theorem isS_k {c : Int} (hc : sgn c) (h : isS T b c = true) : kd T b = 3 := by
  obtain ⟨h1, h2⟩ := isS_t.mp h
  obtain ⟨h3, h4, h5⟩ := hc
  exact kd_s.mpr ⟨h1, tle_f.mpr (by omega), tdi_f.mpr (by omega)⟩
theorem num_r {lo hi : Int} (hlo : 0 ≤ lo) : num T b lo hi = -1 ∨ (kd T b = 2 ∧ lo ≤ num T b lo hi ∧ num T b lo hi ≤ hi ∧ num T b lo hi = nv T b) := by
  unfold num
  split
  · rename_i h
    exact Or.inr ⟨h.1, h.2.1, h.2.2, rfl⟩
  · exact Or.inl rfl
theorem dc_r (k : Nat) (h : ∀ j, j < k → 48 ≤ T.1 (b + j) ∧ T.1 (b + j) ≤ 57) (hk : k ≤ 3) : 0 ≤ dc T b k ∧ dc T b k ≤ 999 ∧ (k ≤ 2 → dc T b k ≤ 99) ∧ (k ≤ 1 → dc T b k ≤ 9) := by
  have hc : k = 0 ∨ k = 1 ∨ k = 2 ∨ k = 3 := by omega
  rcases hc with e | e | e | e <;> subst e
  · have e0 : dc T b 0 = 0 := rfl
    omega
  · have e1 : dc T b 1 = 0 * 10 + (T.1 (b + 0) - 48) := rfl
    have h0 := h 0 (by omega)
    omega
  · have e2 : dc T b 2 = (0 * 10 + (T.1 (b + 0) - 48)) * 10 + (T.1 (b + 1) - 48) := rfl
    have h0 := h 0 (by omega)
    have h1 := h 1 (by omega)
    omega
  · have e3 : dc T b 3 = ((0 * 10 + (T.1 (b + 0) - 48)) * 10 + (T.1 (b + 1) - 48)) * 10 + (T.1 (b + 2) - 48) := rfl
    have h0 := h 0 (by omega)
    have h1 := h 1 (by omega)
    have h2 := h 2 (by omega)
    omega
end Tokens2
theorem nrm_d (x : Int) : (0 ≤ x ∧ x ≤ 127 ∧ nrm x = x) ∨ ((x < 0 ∨ 127 < x) ∧ nrm x = 200) := by
  unfold nrm
  split <;> omega
def nvk (T : Tx) (b k : Nat) : Int := if k ≤ 3 then dc T b k else 1000
theorem nvk_s {T : Tx} {b k : Nat} {v d : Int} (hk : k < 3) (hv : v = nvk T b k) (hd : T.1 (b + k) = d) : v * 10 + d - 48 = nvk T b (k + 1) := by
  unfold nvk at hv ⊢
  rw [if_pos (by omega)] at hv
  rw [if_pos (by omega)]
  show _ = dc T b k * 10 + (T.1 (b + k) - 48)
  rw [hv, hd]
  omega
theorem nvk_b {T : Tx} {b k : Nat} (hk : 3 ≤ k) : 1000 = nvk T b (k + 1) := by
  unfold nvk
  rw [if_neg (by omega)]
theorem nv_k {T : Tx} {b n : Nat} (h : af T b = n) : nv T b = nvk T b (n - b) := by
  unfold nv nvk
  rw [h]
theorem nvk_r {T : Tx} {b k : Nat} (hk : k < 3) (h : ∀ i, b ≤ i → i < b + k → tdi T i = true) : 0 ≤ nvk T b k ∧ nvk T b k ≤ 99 := by
  have h2 := dc_r (T := T) (b := b) k (fun j hj => (tdi_t.mp (h (b + j) (by omega) (by omega))).2) (by omega)
  unfold nvk
  rw [if_pos (by omega)]
  exact ⟨h2.1, h2.2.2.1 (by omega)⟩
