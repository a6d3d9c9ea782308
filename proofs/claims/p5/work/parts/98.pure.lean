def w_tax : List Nat := [116, 97, 120]
def w_free : List Nat := [102, 114, 101, 101]
def w_find : List Nat := [102, 105, 110, 100]
def w_if : List Nat := [105, 102]
def w_not : List Nat := [110, 111, 116]
def w_and : List Nat := [97, 110, 100]
def w_or : List Nat := [111, 114]
def w_paper : List Nat := [112, 97, 112, 101, 114]
def w_fire : List Nat := [102, 105, 114, 101]
def w_oven : List Nat := [111, 118, 101, 110]
def w_forge : List Nat := [102, 111, 114, 103, 101]
def w_pot : List Nat := [112, 111, 116]
def w_house : List Nat := [104, 111, 117, 115, 101]
def w_flue : List Nat := [102, 108, 117, 101]
def w_warm : List Nat := [119, 97, 114, 109]
def w_hearths : List Nat := [104, 101, 97, 114, 116, 104, 115]
def w_windows : List Nat := [119, 105, 110, 100, 111, 119, 115]
def w_quarter : List Nat := [113, 117, 97, 114, 116, 101, 114]
def w_tells : List Nat := [116, 101, 108, 108, 115]
def w_sees : List Nat := [115, 101, 101, 115]
def w_hearth : List Nat := [104, 101, 97, 114, 116, 104]
def w_of : List Nat := [111, 102]
def w_wall : List Nat := [119, 97, 108, 108]
def w_rate : List Nat := [114, 97, 116, 101]
def w_fine : List Nat := [102, 105, 110, 101]
def w_visit : List Nat := [118, 105, 115, 105, 116]
def w_bed : List Nat := [98, 101, 100]
theorem i_eq {a b : Int32} : a = b ↔ a.toInt = b.toInt := Int32.toInt_inj.symm
/-! texts, and what both readers see in them: bytes by place (what is no 7-bit byte counts as 200), the length -/
abbrev Tx : Type := (Nat → Int) × Nat
def nrm (x : Int) : Int := if 0 ≤ x ∧ x ≤ 127 then x else 200
theorem nrm_eq {x c : Int} (hc : 0 ≤ c ∧ c ≤ 127) : nrm x = c ↔ x = c := by unfold nrm; split <;> omega
theorem nrm_rg {x a b : Int} (ha : 0 ≤ a) (hb : b ≤ 127) : (a ≤ nrm x ∧ nrm x ≤ b) ↔ (a ≤ x ∧ x ≤ b) := by unfold nrm; split <;> omega
def tbl (T : Tx) (i : Nat) : Bool := decide (i < T.2 ∧ T.1 i = 32)
def tle (T : Tx) (i : Nat) : Bool := decide (i < T.2 ∧ 97 ≤ T.1 i ∧ T.1 i ≤ 122)
def tdi (T : Tx) (i : Nat) : Bool := decide (i < T.2 ∧ 48 ≤ T.1 i ∧ T.1 i ≤ 57)
section Tokens
variable {T : Tx} {i b p q c : Nat}
theorem tbl_t : tbl T i = true ↔ (i < T.2 ∧ T.1 i = 32) := by unfold tbl; exact decide_eq_true_iff
theorem tle_t : tle T i = true ↔ (i < T.2 ∧ 97 ≤ T.1 i ∧ T.1 i ≤ 122) := by unfold tle; exact decide_eq_true_iff
theorem tdi_t : tdi T i = true ↔ (i < T.2 ∧ 48 ≤ T.1 i ∧ T.1 i ≤ 57) := by unfold tdi; exact decide_eq_true_iff
theorem tbl_f : tbl T i = false ↔ ¬ (i < T.2 ∧ T.1 i = 32) := by unfold tbl; exact decide_eq_false_iff_not
theorem tle_f : tle T i = false ↔ ¬ (i < T.2 ∧ 97 ≤ T.1 i ∧ T.1 i ≤ 122) := by unfold tle; exact decide_eq_false_iff_not
theorem tdi_f : tdi T i = false ↔ ¬ (i < T.2 ∧ 48 ≤ T.1 i ∧ T.1 i ≤ 57) := by unfold tdi; exact decide_eq_false_iff_not
end Tokens
/-- where a run ends -/
def rn (P : Nat → Bool) : Nat → Nat → Nat
  | 0, p => p
  | k + 1, p => if P p = true then rn P k (p + 1) else p
theorem rn_of {P : Nat → Bool} {q : Nat} (hq : P q = false) : ∀ (k p : Nat), p ≤ q → (∀ i, p ≤ i → i < q → P i = true) → q < p + k → rn P k p = q
  | 0, p, h1, _, h3 => by omega
  | k + 1, p, h1, h2, h3 => by
    unfold rn
    by_cases e : p = q
    · rw [if_neg (by rw [e, hq]; decide)]
      exact e
    · rw [if_pos (h2 p (Nat.le_refl p) (by omega))]
      exact rn_of hq k (p + 1) (by omega) (fun i a b => h2 i (by omega) b) (by omega)
theorem rn_ge {P : Nat → Bool} : ∀ (k p : Nat), p ≤ rn P k p
  | 0, p => Nat.le_refl p
  | k + 1, p => by
    unfold rn
    split
    · exact Nat.le_trans (Nat.le_succ p) (rn_ge k (p + 1))
    · exact Nat.le_refl p
theorem rn_all {P : Nat → Bool} : ∀ (k p i : Nat), p ≤ i → i < rn P k p → P i = true
  | 0, p, i, h1, h2 => by
    have h2 : i < p := h2
    omega
  | k + 1, p, i, h1, h2 => by
    unfold rn at h2
    split at h2
    · rename_i h
      by_cases e : i = p
      · rw [e]; exact h
      · exact rn_all k (p + 1) i (by omega) h2
    · omega
theorem rn_end {P : Nat → Bool} {L : Nat} (hL : ∀ i, L ≤ i → P i = false) : ∀ (k p : Nat), L < p + k → P (rn P k p) = false
  | 0, p, h => hL p (by omega)
  | k + 1, p, h => by
    unfold rn
    split
    · exact rn_end hL k (p + 1) (by omega)
    · rename_i h
      exact Bool.eq_false_iff.mpr h
theorem rn_lt {P : Nat → Bool} {k p : Nat} (h : P p = true) : p < rn P (k + 1) p := by
  unfold rn
  rw [if_pos h]
  exact Nat.lt_of_lt_of_le (Nat.lt_succ_self p) (rn_ge k (p + 1))
/-- blanks are passed; what a thing is (0 the end, 1 a word, 2 a number, 3 a sign), where it ends, its number, the next thing -/
def sk (T : Tx) (p : Nat) : Nat := rn (tbl T) 500 p
def kd (T : Tx) (b : Nat) : Int := if tle T b = true then 1 else if tdi T b = true then 2 else if b < T.2 then 3 else 0
def af (T : Tx) (b : Nat) : Nat := if tle T b = true then rn (tle T) 500 b else if tdi T b = true then rn (tdi T) 500 b else if b < T.2 then b + 1 else b
def dc (T : Tx) (b : Nat) : Nat → Int
  | 0 => 0
  | k + 1 => dc T b k * 10 + (T.1 (b + k) - 48)
def nv (T : Tx) (b : Nat) : Int := if af T b - b ≤ 3 then dc T b (af T b - b) else 1000
def nx (T : Tx) (b : Nat) : Nat := sk T (af T b)
def eqw (T : Tx) (b : Nat) (w : List Nat) : Bool := (List.range w.length).all (fun j => decide (T.1 (b + j) = ((w.getD j 0 : Nat) : Int)))
def isW (T : Tx) (b : Nat) (w : List Nat) : Bool := decide (kd T b = 1 ∧ af T b = b + w.length) && eqw T b w
def isS (T : Tx) (b : Nat) (c : Int) : Bool := decide (b < T.2 ∧ T.1 b = c)
def num (T : Tx) (b : Nat) (lo hi : Int) : Int := if kd T b = 2 ∧ lo ≤ nv T b ∧ nv T b ≤ hi then nv T b else -1
abbrev sgn (c : Int) : Prop := (0 ≤ c ∧ c ≤ 127) ∧ ¬ (97 ≤ c ∧ c ≤ 122) ∧ ¬ (48 ≤ c ∧ c ≤ 57)
section Tokens2
variable {T : Tx} {i b p q : Nat}
theorem sk_of (h1 : p ≤ q) (h2 : ∀ i, p ≤ i → i < q → tbl T i = true) (h3 : tbl T q = false) (h4 : q ≤ 400) : sk T p = q := rn_of h3 500 p h1 h2 (by omega)
theorem sk_stop (hT : T.2 ≤ 400) : tbl T (sk T p) = false := rn_end (L := T.2) (fun i hi => tbl_f.mpr (by omega)) 500 p (by omega)
theorem sk_ge : p ≤ sk T p := rn_ge 500 p
theorem sk_idem (hT : T.2 ≤ 400) : sk T (sk T p) = sk T p := by
  exact rn_of (q := sk T p) (sk_stop hT) 500 (sk T p) (Nat.le_refl _) (fun i h1 h2 => by omega) (by omega)
theorem sk_le (h : p ≤ T.2) : sk T p ≤ T.2 := by
  apply Classical.byContradiction
  intro z
  have h2 := tbl_t.mp (rn_all (P := tbl T) 500 p T.2 h (Nat.lt_of_not_le z))
  omega
theorem kd_w : kd T b = 1 ↔ tle T b = true := by
  unfold kd
  constructor
  · intro h
    split at h
    · assumption
    · split at h
      · exact absurd h (by decide)
      · split at h <;> exact absurd h (by decide)
  · intro h
    rw [if_pos h]
theorem kd_n : kd T b = 2 ↔ tdi T b = true := by
  unfold kd
  constructor
  · intro h
    split at h
    · exact absurd h (by decide)
    · split at h
      · assumption
      · split at h <;> exact absurd h (by decide)
  · intro h
    have := tdi_t.mp h
    rw [if_neg (by rw [tle_f.mpr (by omega)]; decide), if_pos h]
theorem kd_s : kd T b = 3 ↔ (b < T.2 ∧ tle T b = false ∧ tdi T b = false) := by
  unfold kd
  constructor
  · intro h
    split at h
    · exact absurd h (by decide)
    · rename_i h1
      split at h
      · exact absurd h (by decide)
      · rename_i h2
        split at h
        · rename_i h3
          exact ⟨h3, Bool.eq_false_iff.mpr h1, Bool.eq_false_iff.mpr h2⟩
        · exact absurd h (by decide)
  · rintro ⟨h1, h2, h3⟩
    rw [if_neg (by rw [h2]; decide), if_neg (by rw [h3]; decide), if_pos h1]
theorem kd_e : kd T b = 0 ↔ T.2 ≤ b := by
  unfold kd
  constructor
  · intro h
    split at h
    · exact absurd h (by decide)
    · split at h
      · exact absurd h (by decide)
      · split at h
        · exact absurd h (by decide)
        · omega
  · intro h
    rw [if_neg (by rw [tle_f.mpr (by omega)]; decide), if_neg (by rw [tdi_f.mpr (by omega)]; decide), if_neg (by omega)]
theorem af_w (h : kd T b = 1) : af T b = rn (tle T) 500 b := if_pos (kd_w.mp h)
theorem af_n (h : kd T b = 2) : af T b = rn (tdi T) 500 b := by
  have h2 := kd_n.mp h
  have := tdi_t.mp h2
  unfold af
  rw [if_neg (by rw [tle_f.mpr (by omega)]; decide), if_pos h2]
theorem af_s (h : kd T b = 3) : af T b = b + 1 := by
  obtain ⟨h1, h2, h3⟩ := kd_s.mp h
  unfold af
  rw [if_neg (by rw [h2]; decide), if_neg (by rw [h3]; decide), if_pos h1]
theorem af_e (h : kd T b = 0) : af T b = b := by
  have h := kd_e.mp h
  unfold af
  rw [if_neg (by rw [tle_f.mpr (by omega)]; decide), if_neg (by rw [tdi_f.mpr (by omega)]; decide), if_neg (by omega)]
theorem kd_c : kd T b = 0 ∨ kd T b = 1 ∨ kd T b = 2 ∨ kd T b = 3 := by
  unfold kd
  split
  · exact Or.inr (Or.inl rfl)
  · split
    · exact Or.inr (Or.inr (Or.inl rfl))
    · split
      · exact Or.inr (Or.inr (Or.inr rfl))
      · exact Or.inl rfl
theorem kd_b (h : kd T b ≠ 0) : b < T.2 := by
  have : ¬ T.2 ≤ b := fun z => h (kd_e.mpr z)
  omega
theorem af_lt (h : kd T b ≠ 0) : b < af T b := by
  rcases kd_c (T := T) (b := b) with e | e | e | e
  · exact absurd e h
  · rw [af_w e]; exact rn_lt (kd_w.mp e)
  · rw [af_n e]; exact rn_lt (kd_n.mp e)
  · rw [af_s e]; omega
theorem nx_lt (h : kd T b ≠ 0) : b < nx T b := Nat.lt_of_lt_of_le (af_lt h) sk_ge
theorem isW_t {w : List Nat} : isW T b w = true ↔ (kd T b = 1 ∧ af T b = b + w.length) ∧ eqw T b w = true := by
  unfold isW
  rw [Bool.and_eq_true, decide_eq_true_iff]
theorem isW_k {w : List Nat} (h : isW T b w = true) : kd T b = 1 := (isW_t.mp h).1.1
theorem isW_no {w : List Nat} (h : kd T b ≠ 1) : isW T b w = false := Bool.eq_false_iff.mpr (fun z => h (isW_k z))
theorem eqw_t {w : List Nat} : eqw T b w = true ↔ ∀ j, j < w.length → T.1 (b + j) = ((w.getD j 0 : Nat) : Int) := by
  unfold eqw
  rw [List.all_eq_true]
  exact ⟨fun h j hj => of_decide_eq_true (h j (List.mem_range.mpr hj)), fun h j hj => decide_eq_true (h j (List.mem_range.mp hj))⟩
theorem isS_t {c : Int} : isS T b c = true ↔ (b < T.2 ∧ T.1 b = c) := by unfold isS; exact decide_eq_true_iff
theorem isS_f {c : Int} : isS T b c = false ↔ ¬ (b < T.2 ∧ T.1 b = c) := by unfold isS; exact decide_eq_false_iff_not
theorem isS_k {c : Int} (hc : sgn c) (h : isS T b c = true) : kd T b = 3 := by
  obtain ⟨h1, h2⟩ := isS_t.mp h
  obtain ⟨h3, h4, h5⟩ := hc
  exact kd_s.mpr ⟨h1, tle_f.mpr (by omega), tdi_f.mpr (by omega)⟩
theorem num_r {lo hi : Int} (hlo : 0 ≤ lo) : num T b lo hi = -1 ∨ (kd T b = 2 ∧ lo ≤ num T b lo hi ∧ num T b lo hi ≤ hi ∧ num T b lo hi = nv T b) := by
  unfold num
  split
  · rename_i h
    exact Or.inr ⟨h.1, h.2.1, h.2.2, rfl⟩
  · exact Or.inl rfl
theorem dc_r (k : Nat) (h : ∀ j, j < k → 48 ≤ T.1 (b + j) ∧ T.1 (b + j) ≤ 57) (hk : k ≤ 3) : 0 ≤ dc T b k ∧ dc T b k ≤ 999 ∧ (k ≤ 2 → dc T b k ≤ 99) ∧ (k ≤ 1 → dc T b k ≤ 9) := by
  have hc : k = 0 ∨ k = 1 ∨ k = 2 ∨ k = 3 := by omega
  rcases hc with e | e | e | e <;> subst e
  · have e0 : dc T b 0 = 0 := rfl
    omega
  · have e1 : dc T b 1 = 0 * 10 + (T.1 (b + 0) - 48) := rfl
    have h0 := h 0 (by omega)
    omega
  · have e2 : dc T b 2 = (0 * 10 + (T.1 (b + 0) - 48)) * 10 + (T.1 (b + 1) - 48) := rfl
    have h0 := h 0 (by omega)
    have h1 := h 1 (by omega)
    omega
  · have e3 : dc T b 3 = ((0 * 10 + (T.1 (b + 0) - 48)) * 10 + (T.1 (b + 1) - 48)) * 10 + (T.1 (b + 2) - 48) := rfl
    have h0 := h 0 (by omega)
    have h1 := h 1 (by omega)
    have h2 := h 2 (by omega)
    omega
end Tokens2
theorem nrm_d (x : Int) : (0 ≤ x ∧ x ≤ 127 ∧ nrm x = x) ∨ ((x < 0 ∨ 127 < x) ∧ nrm x = 200) := by
  unfold nrm
  split <;> omega
def nvk (T : Tx) (b k : Nat) : Int := if k ≤ 3 then dc T b k else 1000
theorem nvk_s {T : Tx} {b k : Nat} {v d : Int} (hk : k < 3) (hv : v = nvk T b k) (hd : T.1 (b + k) = d) : v * 10 + d - 48 = nvk T b (k + 1) := by
  unfold nvk at hv ⊢
  rw [if_pos (by omega)] at hv
  rw [if_pos (by omega)]
  show _ = dc T b k * 10 + (T.1 (b + k) - 48)
  rw [hv, hd]
  omega
theorem nvk_b {T : Tx} {b k : Nat} (hk : 3 ≤ k) : 1000 = nvk T b (k + 1) := by
  unfold nvk
  rw [if_neg (by omega)]
theorem nv_k {T : Tx} {b n : Nat} (h : af T b = n) : nv T b = nvk T b (n - b) := by
  unfold nv nvk
  rw [h]
theorem nvk_r {T : Tx} {b k : Nat} (hk : k < 3) (h : ∀ i, b ≤ i → i < b + k → tdi T i = true) : 0 ≤ nvk T b k ∧ nvk T b k ≤ 99 := by
  have h2 := dc_r (T := T) (b := b) k (fun j hj => (tdi_t.mp (h (b + j) (by omega) (by omega))).2) (by omega)
  unfold nvk
  rw [if_pos (by omega)]
  exact ⟨h2.1, h2.2.2.1 (by omega)⟩
/-! the law's grammar over things: (right, the next thing's begin), or (wrong, the first wrong byte) -/
abbrev Rz : Type := Bool × Nat
def srt (T : Tx) (b : Nat) : Int := if isW T b w_tax = true then 0 else if isW T b w_free = true then 1 else if isW T b w_find = true then 2 else -1
def tru (T : Tx) (b : Nat) : Int := if isW T b w_paper = true then -2 else if isW T b w_fire = true then -3 else if isW T b w_oven = true then -4 else if isW T b w_forge = true then -5 else if isW T b w_pot = true then -6 else -1
def prt (T : Tx) (b : Nat) : Bool := decide (kd T b = 2 ∧ nv T b ≤ 999) || isW T b w_house || isW T b w_flue || isW T b w_warm || isW T b w_hearths || isW T b w_windows || isW T b w_quarter
def sumR (T : Tx) : Nat → Nat → Rz
  | 0, b => (false, b)
  | n + 1, b => if prt T b = true then (if isS T (nx T b) 43 = true then sumR T n (nx T (nx T b)) else (true, nx T b)) else (false, b)
def sumF (T : Tx) (b : Nat) : Rz := sumR T 400 b
def cmpF (T : Tx) (b : Nat) : Rz := if (sumF T b).1 = true then (if isS T (sumF T b).2 60 = true ∨ isS T (sumF T b).2 62 = true then sumF T (nx T (sumF T b).2) else (false, (sumF T b).2)) else (false, (sumF T b).2)
def conR (T : Tx) (at9 : Nat → Rz) : Nat → Nat → Rz
  | 0, b => (false, b)
  | n + 1, b => if (at9 b).1 = true then (if isW T (at9 b).2 w_and = true ∨ isW T (at9 b).2 w_or = true then conR T at9 n (nx T (at9 b).2) else (true, (at9 b).2)) else (false, (at9 b).2)
def conF (T : Tx) (at9 : Nat → Rz) (b : Nat) : Rz := conR T at9 400 b
def tkS (T : Tx) (b : Nat) (c : Int) : Rz := if isS T b c = true then (true, nx T b) else (false, b)
def tkW (T : Tx) (b : Nat) (w : List Nat) : Rz := if isW T b w = true then (true, nx T b) else (false, b)
def clo (T : Tx) (z : Rz) : Rz := if z.1 = true then tkS T z.2 41 else (false, z.2)
def tlF (T : Tx) (b : Nat) : Rz := if tru T b = -1 then cmpF T b else (true, nx T b)
/-- an atom that may hold so many more ( and not within one another -/
def atm (T : Tx) : Nat → Nat → Rz
  | 0, b => if isW T b w_not = true ∨ isS T b 40 = true then (false, b) else tlF T b
  | r + 1, b => if isW T b w_not = true then atm T r (nx T b) else if isS T b 40 = true then clo T (conF T (atm T r) (nx T b)) else tlF T b
def numE (T : Tx) (b : Nat) : Rz := if srt T b = 1 then (true, nx T b) else if num T (nx T b) 0 99 = -1 then (false, nx T b) else (true, nx T (nx T b))
def linF (T : Tx) (b : Nat) : Rz := if srt T b = -1 then (false, b) else if (numE T b).1 = true then (if isW T (numE T b).2 w_if = true then conF T (atm T 6) (nx T (numE T b).2) else (true, (numE T b).2)) else (false, (numE T b).2)
/-- lines behind one another, at most so many: right or not, where, how many -/
def lnsR (T : Tx) (li : Nat → Rz) : Nat → Nat → Nat → Bool × Nat × Nat
  | 0, b, k => (false, b, k)
  | m + 1, b, k => if kd T b = 1 then (if (li b).1 = true then (if kd T (li b).2 = 0 then (true, (li b).2, k + 1) else if (tkS T (li b).2 59).1 = true then lnsR T li m (tkS T (li b).2 59).2 (k + 1) else (false, (tkS T (li b).2 59).2, k + 1)) else (false, (li b).2, k)) else (false, b, k)
theorem lnsR_e (T : Tx) (li : Nat → Rz) (m b k : Nat) : lnsR T li (m + 1) b k = if kd T b = 1 then (if (li b).1 = true then (if kd T (li b).2 = 0 then (true, (li b).2, k + 1) else if (tkS T (li b).2 59).1 = true then lnsR T li m (tkS T (li b).2 59).2 (k + 1) else (false, (tkS T (li b).2 59).2, k + 1)) else (false, (li b).2, k)) else (false, b, k) := rfl
def lawF (T : Tx) : Bool × Nat × Nat := if kd T (sk T 0) = 0 then (true, sk T 0, 0) else lnsR T (linF T) 12 (sk T 0) 0
theorem sumR_e (T : Tx) (n b : Nat) : sumR T (n + 1) b = if prt T b = true then (if isS T (nx T b) 43 = true then sumR T n (nx T (nx T b)) else (true, nx T b)) else (false, b) := rfl
theorem conR_e (T : Tx) (at9 : Nat → Rz) (n b : Nat) : conR T at9 (n + 1) b = if (at9 b).1 = true then (if isW T (at9 b).2 w_and = true ∨ isW T (at9 b).2 w_or = true then conR T at9 n (nx T (at9 b).2) else (true, (at9 b).2)) else (false, (at9 b).2) := rfl
section Gram
variable {T : Tx} {b c n m : Nat}
theorem prt_b (h : prt T b = true) : kd T b ≠ 0 := by
  intro z
  have hk : kd T b ≠ 1 := by omega
  have h2 : ¬ (kd T b = 2 ∧ nv T b ≤ 999) := by omega
  unfold prt at h
  rw [isW_no hk, isW_no hk, isW_no hk, isW_no hk, isW_no hk, isW_no hk, decide_eq_false h2] at h
  exact absurd h (by decide)
theorem isS_b {x : Int} (h : isS T b x = true) : b < T.2 := (isS_t.mp h).1
theorem kd_in (h : b < T.2) : kd T b ≠ 0 := fun z => by
  have := kd_e.mp z
  omega
/-- more room changes nothing -/
theorem sumR_big : ∀ (n m b : Nat), T.2 < b + n → T.2 < b + m → 0 < n → 0 < m → sumR T n b = sumR T m b
  | 0, _, _, _, _, h, _ => absurd h (by omega)
  | _ + 1, 0, _, _, _, _, h => absurd h (by omega)
  | n + 1, m + 1, b, h1, h2, _, _ => by
    rw [sumR_e T n b, sumR_e T m b]
    by_cases hp : prt T b = true
    · rw [if_pos hp, if_pos hp]
      by_cases hs : isS T (nx T b) 43 = true
      · rw [if_pos hs, if_pos hs]
        have a1 := nx_lt (prt_b hp)
        have a2 := nx_lt (kd_in (isS_b hs))
        have a3 := isS_b hs
        exact sumR_big n m _ (by omega) (by omega) (by omega) (by omega)
      · rw [if_neg hs, if_neg hs]
    · rw [if_neg hp, if_neg hp]
theorem sumF_fix (hT : T.2 ≤ 400) : sumF T b = if prt T b = true then (if isS T (nx T b) 43 = true then sumF T (nx T (nx T b)) else (true, nx T b)) else (false, b) := by
  show sumR T (399 + 1) b = _
  rw [sumR_e T 399 b]
  by_cases hp : prt T b = true
  · rw [if_pos hp, if_pos hp]
    by_cases hs : isS T (nx T b) 43 = true
    · rw [if_pos hs, if_pos hs]
      have a1 := nx_lt (prt_b hp)
      have a2 := nx_lt (kd_in (isS_b hs))
      exact sumR_big 399 400 _ (by omega) (by omega) (by omega) (by omega)
    · rw [if_neg hs, if_neg hs]
  · rw [if_neg hp, if_neg hp]
/-- a part of the grammar that goes on -/
def Gon (f : Nat → Rz) : Prop := ∀ b, (f b).1 = true → b < (f b).2
theorem conR_big {at9 : Nat → Rz} (hg : Gon at9) : ∀ (n m b : Nat), T.2 < b + n → T.2 < b + m → 0 < n → 0 < m → conR T at9 n b = conR T at9 m b
  | 0, _, _, _, _, h, _ => absurd h (by omega)
  | _ + 1, 0, _, _, _, _, h => absurd h (by omega)
  | n + 1, m + 1, b, h1, h2, _, _ => by
    rw [conR_e T at9 n b, conR_e T at9 m b]
    by_cases hp : (at9 b).1 = true
    · rw [if_pos hp, if_pos hp]
      by_cases hs : isW T (at9 b).2 w_and = true ∨ isW T (at9 b).2 w_or = true
      · rw [if_pos hs, if_pos hs]
        have a1 := hg b hp
        have k1 : kd T (at9 b).2 = 1 := hs.elim isW_k isW_k
        have a2 := nx_lt (T := T) (b := (at9 b).2) (by omega)
        have a3 := kd_b (T := T) (b := (at9 b).2) (by omega)
        exact conR_big hg n m _ (by omega) (by omega) (by omega) (by omega)
      · rw [if_neg hs, if_neg hs]
    · rw [if_neg hp, if_neg hp]
theorem conF_fix {at9 : Nat → Rz} (hg : Gon at9) (hT : T.2 ≤ 400) : conF T at9 b = if (at9 b).1 = true then (if isW T (at9 b).2 w_and = true ∨ isW T (at9 b).2 w_or = true then conF T at9 (nx T (at9 b).2) else (true, (at9 b).2)) else (false, (at9 b).2) := by
  show conR T at9 (399 + 1) b = _
  rw [conR_e T at9 399 b]
  by_cases hp : (at9 b).1 = true
  · rw [if_pos hp, if_pos hp]
    by_cases hs : isW T (at9 b).2 w_and = true ∨ isW T (at9 b).2 w_or = true
    · rw [if_pos hs, if_pos hs]
      have a1 := hg b hp
      have k1 : kd T (at9 b).2 = 1 := hs.elim isW_k isW_k
      have a2 := nx_lt (T := T) (b := (at9 b).2) (by omega)
      exact conR_big hg 399 400 _ (by omega) (by omega) (by omega) (by omega)
    · rw [if_neg hs, if_neg hs]
  · rw [if_neg hp, if_neg hp]
theorem sumR_on : ∀ (n b : Nat), (sumR T n b).1 = true → b < (sumR T n b).2
  | 0, _, h => absurd h (by simp [sumR])
  | n + 1, b, h => by
    rw [sumR_e T n b] at h ⊢
    by_cases hp : prt T b = true
    · rw [if_pos hp] at h ⊢
      have a1 := nx_lt (prt_b hp)
      by_cases hs : isS T (nx T b) 43 = true
      · rw [if_pos hs] at h ⊢
        have a2 := nx_lt (kd_in (isS_b hs))
        have := sumR_on n _ h
        omega
      · rw [if_neg hs]
        exact a1
    · rw [if_neg hp] at h
      exact absurd h Bool.false_ne_true
theorem sumF_on : Gon (sumF T) := fun b h => sumR_on 400 b h
theorem cmpF_on : Gon (cmpF T) := by
  intro b h
  unfold cmpF at h ⊢
  by_cases h1 : (sumF T b).1 = true
  · rw [if_pos h1] at h ⊢
    have a1 := sumF_on b h1
    by_cases h2 : isS T (sumF T b).2 60 = true ∨ isS T (sumF T b).2 62 = true
    · rw [if_pos h2] at h ⊢
      have a2 := nx_lt (T := T) (b := (sumF T b).2) (kd_in (h2.elim isS_b isS_b))
      have a3 := sumF_on _ h
      omega
    · rw [if_neg h2] at h
      exact absurd h Bool.false_ne_true
  · rw [if_neg h1] at h
    exact absurd h Bool.false_ne_true
theorem tru_k (h : tru T b ≠ -1) : kd T b = 1 := by
  apply Classical.byContradiction
  intro hk
  apply h
  unfold tru
  rw [isW_no hk, isW_no hk, isW_no hk, isW_no hk, isW_no hk]
  rfl
theorem tlF_on : Gon (tlF T) := by
  intro b h
  unfold tlF at h ⊢
  by_cases h1 : tru T b = -1
  · rw [if_pos h1] at h ⊢
    exact cmpF_on b h
  · rw [if_neg h1]
    exact nx_lt (by rw [tru_k h1]; decide)
theorem conR_on {at9 : Nat → Rz} (hg : Gon at9) : ∀ (n b : Nat), (conR T at9 n b).1 = true → b < (conR T at9 n b).2
  | 0, _, h => absurd h (by simp [conR])
  | n + 1, b, h => by
    rw [conR_e T at9 n b] at h ⊢
    by_cases hp : (at9 b).1 = true
    · rw [if_pos hp] at h ⊢
      have a1 := hg b hp
      by_cases hs : isW T (at9 b).2 w_and = true ∨ isW T (at9 b).2 w_or = true
      · rw [if_pos hs] at h ⊢
        have k1 : kd T (at9 b).2 = 1 := hs.elim isW_k isW_k
        have a2 := nx_lt (T := T) (b := (at9 b).2) (by omega)
        have := conR_on hg n _ h
        omega
      · rw [if_neg hs]
        exact a1
    · rw [if_neg hp] at h
      exact absurd h Bool.false_ne_true
theorem clo_on {z : Rz} (h : (clo T z).1 = true) : z.1 = true ∧ z.2 < (clo T z).2 := by
  unfold clo at h ⊢
  by_cases h1 : z.1 = true
  · rw [if_pos h1] at h ⊢
    unfold tkS at h ⊢
    by_cases h2 : isS T z.2 41 = true
    · rw [if_pos h2]
      exact ⟨h1, nx_lt (kd_in (isS_b h2))⟩
    · rw [if_neg h2] at h
      exact absurd h Bool.false_ne_true
  · rw [if_neg h1] at h
    exact absurd h Bool.false_ne_true
theorem atm_z9 : atm T 0 b = if isW T b w_not = true ∨ isS T b 40 = true then (false, b) else tlF T b := rfl
theorem atm_s9 (r : Nat) : atm T (r + 1) b = if isW T b w_not = true then atm T r (nx T b) else if isS T b 40 = true then clo T (conF T (atm T r) (nx T b)) else tlF T b := rfl
theorem atm_on : ∀ r : Nat, Gon (atm T r)
  | 0 => by
    intro b h
    rw [atm_z9] at h ⊢
    by_cases h1 : isW T b w_not = true ∨ isS T b 40 = true
    · rw [if_pos h1] at h
      exact absurd h Bool.false_ne_true
    · rw [if_neg h1] at h ⊢
      exact tlF_on b h
  | r + 1 => by
    intro b h
    rw [atm_s9] at h ⊢
    by_cases h1 : isW T b w_not = true
    · rw [if_pos h1] at h ⊢
      have a1 := nx_lt (T := T) (b := b) (by rw [isW_k h1]; decide)
      have a2 := atm_on r _ h
      omega
    · rw [if_neg h1] at h ⊢
      by_cases h2 : isS T b 40 = true
      · rw [if_pos h2] at h ⊢
        have a1 := nx_lt (T := T) (b := b) (kd_in (isS_b h2))
        have a2 := clo_on h
        have a3 := conR_on (atm_on r) 400 _ a2.1
        have a4 : nx T b < (conF T (atm T r) (nx T b)).2 := a3
        omega
      · rw [if_neg h2] at h ⊢
        exact tlF_on b h
/-- ALL { or ALL } with ALL: ATOM { and ATOM } is ATOMS with and or or between them -/
def allR (T : Tx) (at9 : Nat → Rz) : Nat → Nat → Rz
  | 0, b => (false, b)
  | n + 1, b => if (at9 b).1 = true then (if isW T (at9 b).2 w_and = true then allR T at9 n (nx T (at9 b).2) else (true, (at9 b).2)) else (false, (at9 b).2)
theorem allR_e (T : Tx) (at9 : Nat → Rz) (n b : Nat) : allR T at9 (n + 1) b = if (at9 b).1 = true then (if isW T (at9 b).2 w_and = true then allR T at9 n (nx T (at9 b).2) else (true, (at9 b).2)) else (false, (at9 b).2) := rfl
def allF (T : Tx) (at9 : Nat → Rz) (b : Nat) : Rz := allR T at9 400 b
theorem allR_big {at9 : Nat → Rz} (hg : Gon at9) : ∀ (n m b : Nat), T.2 < b + n → T.2 < b + m → 0 < n → 0 < m → allR T at9 n b = allR T at9 m b
  | 0, _, _, _, _, h, _ => absurd h (by omega)
  | _ + 1, 0, _, _, _, _, h => absurd h (by omega)
  | n + 1, m + 1, b, h1, h2, _, _ => by
    rw [allR_e T at9 n b, allR_e T at9 m b]
    by_cases hp : (at9 b).1 = true
    · rw [if_pos hp, if_pos hp]
      by_cases hs : isW T (at9 b).2 w_and = true
      · rw [if_pos hs, if_pos hs]
        have a1 := hg b hp
        have k1 : kd T (at9 b).2 = 1 := isW_k hs
        have a2 := nx_lt (T := T) (b := (at9 b).2) (by omega)
        have a3 := kd_b (T := T) (b := (at9 b).2) (by omega)
        exact allR_big hg n m _ (by omega) (by omega) (by omega) (by omega)
      · rw [if_neg hs, if_neg hs]
    · rw [if_neg hp, if_neg hp]
theorem allF_fix {at9 : Nat → Rz} (hg : Gon at9) (hT : T.2 ≤ 400) : allF T at9 b = if (at9 b).1 = true then (if isW T (at9 b).2 w_and = true then allF T at9 (nx T (at9 b).2) else (true, (at9 b).2)) else (false, (at9 b).2) := by
  show allR T at9 (399 + 1) b = _
  rw [allR_e T at9 399 b]
  by_cases hp : (at9 b).1 = true
  · rw [if_pos hp, if_pos hp]
    by_cases hs : isW T (at9 b).2 w_and = true
    · rw [if_pos hs, if_pos hs]
      have a1 := hg b hp
      have k1 : kd T (at9 b).2 = 1 := isW_k hs
      have a2 := nx_lt (T := T) (b := (at9 b).2) (by omega)
      exact allR_big hg 399 400 _ (by omega) (by omega) (by omega) (by omega)
    · rw [if_neg hs, if_neg hs]
  · rw [if_neg hp, if_neg hp]
theorem conF_all {at9 : Nat → Rz} (hg : Gon at9) (hT : T.2 ≤ 400) : ∀ (k b : Nat), T.2 < b + k → 0 < k → conF T at9 b = if (allF T at9 b).1 = true then (if isW T (allF T at9 b).2 w_or = true then conF T at9 (nx T (allF T at9 b).2) else (true, (allF T at9 b).2)) else (false, (allF T at9 b).2)
  | 0, _, _, h => absurd h (by omega)
  | k + 1, b, hb, _ => by
    rw [conF_fix (b := b) hg hT, allF_fix (b := b) hg hT]
    by_cases hp : (at9 b).1 = true
    · rw [if_pos hp, if_pos hp]
      have a1 := hg b hp
      by_cases hs : isW T (at9 b).2 w_and = true
      · rw [if_pos (Or.inl hs), if_pos hs]
        have k1 : kd T (at9 b).2 = 1 := isW_k hs
        have a2 := nx_lt (T := T) (b := (at9 b).2) (by omega)
        have a3 := kd_b (T := T) (b := (at9 b).2) (by omega)
        exact conF_all hg hT k _ (by omega) (by omega)
      · rw [if_neg hs, if_pos (show ((true, (at9 b).2) : Rz).1 = true from rfl)]
        by_cases ho : isW T (at9 b).2 w_or = true
        · rw [if_pos (Or.inr ho), if_pos ho]
        · rw [if_neg (fun z => z.elim hs ho), if_neg ho]
    · rw [if_neg hp, if_neg hp, if_neg (show ¬ ((false, (at9 b).2) : Rz).1 = true from Bool.false_ne_true)]
theorem conF_or {at9 : Nat → Rz} (hg : Gon at9) (hT : T.2 ≤ 400) : conF T at9 b = if (allF T at9 b).1 = true then (if isW T (allF T at9 b).2 w_or = true then conF T at9 (nx T (allF T at9 b).2) else (true, (allF T at9 b).2)) else (false, (allF T at9 b).2) := conF_all hg hT 500 b (by omega) (by omega)
end Gram
/-! what the reference's readers read -/
def prtR (T : Tx) (b : Nat) : Rz := if prt T b = true then (true, nx T b) else (false, b)
def sumT (T : Tx) (c : Nat) : Rz := if isS T c 43 = true then sumF T (nx T c) else (true, c)
def tagB (T : Tx) (b : Nat) : Bool := decide (tru T b ≠ -1)
def allT (T : Tx) (at9 : Nat → Rz) (c : Nat) : Rz := if isW T c w_and = true then allF T at9 (nx T c) else (true, c)
def conT (T : Tx) (at9 : Nat → Rz) (c : Nat) : Rz := if isW T c w_or = true then conF T at9 (nx T c) else (true, c)
section Refs
variable {T : Tx} {b c e : Nat} {at9 : Nat → Rz}
theorem prtR_t (h : prtR T b = (true, c)) : prt T b = true ∧ c = nx T b := by
  unfold prtR at h
  by_cases hp : prt T b = true
  · rw [if_pos hp] at h
    exact ⟨hp, (Prod.mk.inj h).2.symm⟩
  · rw [if_neg hp] at h
    exact absurd (Prod.mk.inj h).1 Bool.false_ne_true
theorem prtR_f (h : prtR T b = (false, e)) : ¬ prt T b = true ∧ e = b := by
  unfold prtR at h
  by_cases hp : prt T b = true
  · rw [if_pos hp] at h
    exact absurd (Prod.mk.inj h).1.symm Bool.false_ne_true
  · rw [if_neg hp] at h
    exact ⟨hp, (Prod.mk.inj h).2.symm⟩
theorem sum_in (hT : T.2 ≤ 400) (h : prtR T b = (true, c)) : sumF T b = sumT T c := by
  obtain ⟨h1, rfl⟩ := prtR_t h
  rw [sumF_fix hT, if_pos h1]
  rfl
theorem sum_no (hT : T.2 ≤ 400) (h : prtR T b = (false, e)) : sumF T b = (false, e) := by
  obtain ⟨h1, rfl⟩ := prtR_f h
  rw [sumF_fix hT, if_neg h1]
theorem sumT_t (h : isS T c 43 = true) : sumT T c = sumF T (nx T c) := if_pos h
theorem sumT_f (h : isS T c 43 = false) : sumT T c = (true, c) := if_neg (by rw [h]; decide)
theorem all_in (hg : Gon at9) (hT : T.2 ≤ 400) (h : at9 b = (true, c)) : allF T at9 b = allT T at9 c := by
  rw [allF_fix hg hT, h, if_pos (show ((true, c) : Rz).1 = true from rfl)]
  rfl
theorem all_no (hg : Gon at9) (hT : T.2 ≤ 400) (h : at9 b = (false, e)) : allF T at9 b = (false, e) := by
  rw [allF_fix hg hT, h, if_neg (show ¬ ((false, e) : Rz).1 = true from Bool.false_ne_true)]
theorem allT_t (h : isW T c w_and = true) : allT T at9 c = allF T at9 (nx T c) := if_pos h
theorem allT_f (h : isW T c w_and = false) : allT T at9 c = (true, c) := if_neg (by rw [h]; decide)
theorem con_in (hg : Gon at9) (hT : T.2 ≤ 400) (h : allF T at9 b = (true, c)) : conF T at9 b = conT T at9 c := by
  rw [conF_or hg hT, h, if_pos (show ((true, c) : Rz).1 = true from rfl)]
  rfl
theorem con_no (hg : Gon at9) (hT : T.2 ≤ 400) (h : allF T at9 b = (false, e)) : conF T at9 b = (false, e) := by
  rw [conF_or hg hT, h, if_neg (show ¬ ((false, e) : Rz).1 = true from Bool.false_ne_true)]
theorem conT_t (h : isW T c w_or = true) : conT T at9 c = conF T at9 (nx T c) := if_pos h
theorem conT_f (h : isW T c w_or = false) : conT T at9 c = (true, c) := if_neg (by rw [h]; decide)
theorem tag_t (h : tagB T b = true) : ¬ tru T b = -1 := of_decide_eq_true h
theorem tag_f (h : tagB T b = false) : tru T b = -1 := Classical.not_not.mp (of_decide_eq_false h)
theorem nv_nn (h : kd T b = 2) : 0 ≤ nv T b := by
  unfold nv
  split
  · rename_i h9
    rw [af_n h] at h9 ⊢
    exact (dc_r (T := T) (b := b) _ (fun j hj => (tdi_t.mp (rn_all (P := tdi T) 500 b (b + j) (by omega) (by omega))).2) h9).1
  · decide
theorem prt_num (hk : kd T b ≠ 1) (h : num T b 0 999 ≠ -1) : prt T b = true := by
  rcases num_r (T := T) (b := b) (lo := 0) (hi := 999) (by decide) with h1 | ⟨h1, h2, h3, h4⟩
  · exact absurd h1 h
  · unfold prt
    rw [decide_eq_true (show kd T b = 2 ∧ nv T b ≤ 999 from ⟨h1, by omega⟩)]
    simp
theorem prt_non (hk : kd T b ≠ 1) (h : num T b 0 999 = -1) : ¬ prt T b = true := by
  intro z
  unfold prt at z
  rw [isW_no hk, isW_no hk, isW_no hk, isW_no hk, isW_no hk, isW_no hk] at z
  simp at z
  have h3 := nv_nn z.1
  unfold num at h
  rw [if_pos ⟨z.1, h3, z.2⟩] at h
  omega
theorem srt_k (h : srt T b ≠ -1) : kd T b = 1 := by
  apply Classical.byContradiction
  intro hk
  apply h
  unfold srt
  rw [isW_no hk, isW_no hk, isW_no hk]
  rfl
theorem lin_k (hk : kd T b ≠ 1) : linF T b = (false, b) := by
  unfold linF
  rw [if_pos (Classical.byContradiction fun z => hk (srt_k z))]
theorem isS_nW {w : List Nat} (h : isS T b 40 = true) : isW T b w = false := isW_no (by rw [isS_k (c := 40) (by decide) h]; decide)
end Refs
section Steps
variable {T : Tx} {b c e n m k : Nat} {at9 li : Nat → Rz}
theorem sumR_no (h : 0 < n) (hp : prt T b = false) : sumR T n b = (false, b) := by
  obtain ⟨m, rfl⟩ : ∃ m, n = m + 1 := ⟨n - 1, by omega⟩
  rw [sumR_e T m b, if_neg (by rw [hp]; decide)]
theorem sumR_ok (h : 0 < n) (hp : prt T b = true) (hs : isS T (nx T b) 43 = false) : sumR T n b = (true, nx T b) := by
  obtain ⟨m, rfl⟩ : ∃ m, n = m + 1 := ⟨n - 1, by omega⟩
  rw [sumR_e T m b, if_pos hp, if_neg (by rw [hs]; decide)]
theorem sumR_st (h : n = m + 1) (hp : prt T b = true) (hs : isS T (nx T b) 43 = true) : sumR T n b = sumR T m (nx T (nx T b)) := by
  subst h
  rw [sumR_e T m b, if_pos hp, if_pos hs]
theorem conR_no (h : 0 < n) (ha : at9 b = (false, e)) : conR T at9 n b = (false, e) := by
  obtain ⟨m, rfl⟩ : ∃ m, n = m + 1 := ⟨n - 1, by omega⟩
  rw [conR_e T at9 m b, ha, if_neg (show ¬ ((false, e) : Rz).1 = true from Bool.false_ne_true)]
theorem conR_ok (h : 0 < n) (ha : at9 b = (true, c)) (h1 : isW T c w_and = false) (h2 : isW T c w_or = false) : conR T at9 n b = (true, c) := by
  obtain ⟨m, rfl⟩ : ∃ m, n = m + 1 := ⟨n - 1, by omega⟩
  rw [conR_e T at9 m b, ha, if_pos (show ((true, c) : Rz).1 = true from rfl), if_neg (by show ¬ (isW T c w_and = true ∨ isW T c w_or = true); rw [h1, h2]; decide)]
theorem conR_st (h : n = m + 1) (ha : at9 b = (true, c)) (h1 : isW T c w_and = true ∨ isW T c w_or = true) : conR T at9 n b = conR T at9 m (nx T c) := by
  subst h
  rw [conR_e T at9 m b, ha, if_pos (show ((true, c) : Rz).1 = true from rfl), if_pos (show isW T ((true, c) : Rz).2 w_and = true ∨ isW T ((true, c) : Rz).2 w_or = true from h1)]
theorem atm_z : atm T 0 b = if isW T b w_not = true ∨ isS T b 40 = true then (false, b) else tlF T b := rfl
theorem atm_s (r : Nat) : atm T (r + 1) b = if isW T b w_not = true then atm T r (nx T b) else if isS T b 40 = true then clo T (conF T (atm T r) (nx T b)) else tlF T b := rfl
theorem lns_k (h : n = m + 1) (hk : kd T b ≠ 1) : lnsR T li n b k = (false, b, k) := by
  subst h
  rw [lnsR_e T li m b k, if_neg hk]
theorem lns_no (h : n = m + 1) (hk : kd T b = 1) (hl : li b = (false, e)) : lnsR T li n b k = (false, e, k) := by
  subst h
  rw [lnsR_e T li m b k, if_pos hk, hl, if_neg (show ¬ ((false, e) : Rz).1 = true from Bool.false_ne_true)]
theorem lns_end (h : n = m + 1) (hk : kd T b = 1) (hl : li b = (true, c)) (he : kd T c = 0) : lnsR T li n b k = (true, c, k + 1) := by
  subst h
  rw [lnsR_e T li m b k, if_pos hk, hl, if_pos (show ((true, c) : Rz).1 = true from rfl), if_pos (show kd T ((true, c) : Rz).2 = 0 from he)]
theorem lns_st {d : Nat} (h : n = m + 1) (hk : kd T b = 1) (hl : li b = (true, c)) (he : kd T c ≠ 0) (hs : tkS T c 59 = (true, d)) : lnsR T li n b k = lnsR T li m d (k + 1) := by
  subst h
  rw [lnsR_e T li m b k, if_pos hk, hl, if_pos (show ((true, c) : Rz).1 = true from rfl), if_neg (show ¬ kd T ((true, c) : Rz).2 = 0 from he)]
  show (if (tkS T c 59).1 = true then _ else _) = _
  rw [hs, if_pos (show ((true, d) : Rz).1 = true from rfl)]
theorem lns_sg (h : n = m + 1) (hk : kd T b = 1) (hl : li b = (true, c)) (he : kd T c ≠ 0) (hs : tkS T c 59 = (false, e)) : lnsR T li n b k = (false, e, k + 1) := by
  subst h
  rw [lnsR_e T li m b k, if_pos hk, hl, if_pos (show ((true, c) : Rz).1 = true from rfl), if_neg (show ¬ kd T ((true, c) : Rz).2 = 0 from he)]
  show (if (tkS T c 59).1 = true then _ else _) = _
  rw [hs, if_neg (show ¬ ((false, e) : Rz).1 = true from Bool.false_ne_true)]
end Steps
/-! bytes of a number, the highest first, as class and reference write them -/
def fb (x : Int32) (k : Nat) : Int := (((x.toBitVec.toNat / 2 ^ (24 - 8 * k)) % 256 : Nat) : Int)
theorem fb_r (x : Int32) (k : Nat) : 0 ≤ fb x k ∧ fb x k ≤ 255 := by
  unfold fb
  omega
theorem and255 (u : Int32) : (u &&& 255).toInt = ((u.toBitVec.toNat % 256 : Nat) : Int) := by
  have h : (u &&& 255).toBitVec.toNat = u.toBitVec.toNat % 256 := by
    show (u.toBitVec &&& (255 : Int32).toBitVec).toNat = _
    rw [BitVec.toNat_and, show (255 : Int32).toBitVec.toNat = 2 ^ 8 - 1 by decide]
    exact Nat.and_two_pow_sub_one_eq_mod _ 8
  show (u &&& 255).toBitVec.toInt = _
  rw [BitVec.toInt_eq_toNat_of_lt (by omega), h]
theorem by_c {x y : Int32} {k n : Nat} (hy : ((y.toUInt32 &&& Int32.toUInt32 31).toBitVec % 32).toNat = n) (hk : n = 24 - 8 * k) : ((x.toUInt32 >>> (y.toUInt32 &&& Int32.toUInt32 31)).toInt32 &&& 255).toInt = fb x k := by
  rw [and255, pk_ushr x y n hy, hk]
  rfl
theorem sh4 {y : Int32} (h : y.toInt = 24 ∨ y.toInt = 16 ∨ y.toInt = 8 ∨ y.toInt = 0) : y = 24 ∨ y = 16 ∨ y = 8 ∨ y = 0 := by
  rcases h with h | h | h | h
  · exact Or.inl (i_eq.mpr (by rw [h]; decide))
  · exact Or.inr (Or.inl (i_eq.mpr (by rw [h]; decide)))
  · exact Or.inr (Or.inr (Or.inl (i_eq.mpr (by rw [h]; decide))))
  · exact Or.inr (Or.inr (Or.inr (i_eq.mpr (by rw [h]; decide))))
theorem by_put {x y : Int32} {k : Nat} (hy : y.toInt = 24 - 8 * (k : Int)) (hk : k ≤ 3) : ((x.toUInt32 >>> (y.toUInt32 &&& Int32.toUInt32 31)).toInt32 &&& 255).toInt = fb x k := by
  rcases sh4 (y := y) (by omega) with e | e | e | e
  · subst e; exact by_c (n := 24) (by decide) (by have : (24 : Int32).toInt = 24 := by decide
                                                  omega)
  · subst e; exact by_c (n := 16) (by decide) (by have : (16 : Int32).toInt = 16 := by decide
                                                  omega)
  · subst e; exact by_c (n := 8) (by decide) (by have : (8 : Int32).toInt = 8 := by decide
                                                 omega)
  · subst e; exact by_c (n := 0) (by decide) (by have : (0 : Int32).toInt = 0 := by decide
                                                 omega)
theorem i2b_i (x : Int32) : x.toInt8.toInt32.toInt = x.toInt.bmod 256 := by
  rw [Int8.toInt_toInt32, Int32.toInt_toInt8]
theorem i_toNat (x : Int32) : x.toInt = (x.toBitVec.toNat : Int) ∨ x.toInt = (x.toBitVec.toNat : Int) - 4294967296 := by
  have h : x.toInt = x.toBitVec.toInt := rfl
  rw [h, BitVec.toInt_eq_toNat_cond]
  split
  · exact Or.inl rfl
  · exact Or.inr rfl
theorem bmod_n {a r : Int} (h : ∃ q : Int, a = 256 * q + r) (h0 : 0 ≤ r ∧ r ≤ 255) : nrm (a.bmod 256) = nrm r := by
  obtain ⟨q, rfl⟩ := h
  have h1 := Int.emod_emod_of_dvd (256 * q + r) (m := 256) (k := 256) (by decide)
  have h2 : (256 * q + r) % 256 = r := by omega
  unfold Int.bmod
  rw [show ((256 : Nat) : Int) = 256 from rfl, h2]
  unfold nrm
  split <;> split <;> first | omega | (split <;> omega)
theorem by_m {x y : Int32} {k n : Nat} (hy : ((y &&& 31).toBitVec.smod 32).toNat = n) (hk : n = 24 - 8 * k) (h3 : k ≤ 3) : nrm (x >>> (y &&& 31)).toInt8.toInt32.toInt = nrm (fb x k) := by
  rw [i2b_i, pk_shr x (y &&& 31) n hy]
  refine bmod_n ?_ (fb_r x k)
  unfold fb
  rw [Int.shiftRight_eq_div_pow]
  have hx := i_toNat x
  have hb : x.toBitVec.toNat < 4294967296 := x.toBitVec.isLt
  have h4 : k = 0 ∨ k = 1 ∨ k = 2 ∨ k = 3 := by omega
  rcases h4 with e | e | e | e
  · subst e; subst hk
    refine ⟨(x.toInt / 2 ^ 24 - ((x.toBitVec.toNat / 2 ^ 24 % 256 : Nat) : Int)) / 256, ?_⟩
    show x.toInt / ((2 ^ 24 : Nat) : Int) = 256 * ((x.toInt / 16777216 - ((x.toBitVec.toNat / 16777216 % 256 : Nat) : Int)) / 256) + ((x.toBitVec.toNat / 16777216 % 256 : Nat) : Int)
    show x.toInt / 16777216 = _
    omega
  · subst e; subst hk
    refine ⟨(x.toInt / 2 ^ 16 - ((x.toBitVec.toNat / 2 ^ 16 % 256 : Nat) : Int)) / 256, ?_⟩
    show x.toInt / 65536 = 256 * ((x.toInt / 65536 - ((x.toBitVec.toNat / 65536 % 256 : Nat) : Int)) / 256) + ((x.toBitVec.toNat / 65536 % 256 : Nat) : Int)
    omega
  · subst e; subst hk
    refine ⟨(x.toInt / 2 ^ 8 - ((x.toBitVec.toNat / 2 ^ 8 % 256 : Nat) : Int)) / 256, ?_⟩
    show x.toInt / 256 = 256 * ((x.toInt / 256 - ((x.toBitVec.toNat / 256 % 256 : Nat) : Int)) / 256) + ((x.toBitVec.toNat / 256 % 256 : Nat) : Int)
    omega
  · subst e; subst hk
    refine ⟨(x.toInt - ((x.toBitVec.toNat % 256 : Nat) : Int)) / 256, ?_⟩
    show x.toInt / 1 = 256 * ((x.toInt - ((x.toBitVec.toNat % 256 : Nat) : Int)) / 256) + ((x.toBitVec.toNat / 1 % 256 : Nat) : Int)
    omega
theorem by_mod {x y : Int32} {k : Nat} (hy : y.toInt = 24 - 8 * (k : Int)) (hk : k ≤ 3) : nrm (x >>> (y &&& 31)).toInt8.toInt32.toInt = nrm (fb x k) := by
  rcases sh4 (y := y) (by omega) with e | e | e | e
  · subst e; exact by_m (n := 24) (by decide) (by have : (24 : Int32).toInt = 24 := by decide
                                                  omega) hk
  · subst e; exact by_m (n := 16) (by decide) (by have : (16 : Int32).toInt = 16 := by decide
                                                  omega) hk
  · subst e; exact by_m (n := 8) (by decide) (by have : (8 : Int32).toInt = 8 := by decide
                                                 omega) hk
  · subst e; exact by_m (n := 0) (by decide) (by have : (0 : Int32).toInt = 0 := by decide
                                                 omega) hk
def pk5 (x1 x2 x3 x4 x5 : Int32) (m : Nat) : Int32 := match m with | 0 => x1 | 1 => x2 | 2 => x3 | 3 => x4 | _ => x5
theorem feed5 {x1 x2 x3 x4 x5 : Int32} {B0 B1 B2 B3 B4 B5 : Nat → Int} {L : Nat}
    (h1 : ∀ i, B1 i = if L ≤ i ∧ i < L + 4 then fb x1 (i - L) else B0 i) (h2 : ∀ i, B2 i = if L + 4 ≤ i ∧ i < L + 4 + 4 then fb x2 (i - (L + 4)) else B1 i) (h3 : ∀ i, B3 i = if L + 8 ≤ i ∧ i < L + 8 + 4 then fb x3 (i - (L + 8)) else B2 i)
    (h4 : ∀ i, B4 i = if L + 12 ≤ i ∧ i < L + 12 + 4 then fb x4 (i - (L + 12)) else B3 i) (h5 : ∀ i, B5 i = if L + 16 ≤ i ∧ i < L + 16 + 4 then fb x5 (i - (L + 16)) else B4 i) :
    ∀ i, B5 i = if L ≤ i ∧ i < L + 20 then fb (pk5 x1 x2 x3 x4 x5 ((i - L) / 4)) ((i - L) % 4) else B0 i := by
  intro i
  by_cases c : L ≤ i ∧ i < L + 20
  · rw [if_pos c]
    have hm : (i - L) / 4 = 0 ∨ (i - L) / 4 = 1 ∨ (i - L) / 4 = 2 ∨ (i - L) / 4 = 3 ∨ (i - L) / 4 = 4 := by omega
    rcases hm with e | e | e | e | e
    · rw [e, h5, if_neg (by omega), h4, if_neg (by omega), h3, if_neg (by omega), h2, if_neg (by omega), h1, if_pos (by omega), show (i - L) % 4 = i - L by omega]; rfl
    · rw [e, h5, if_neg (by omega), h4, if_neg (by omega), h3, if_neg (by omega), h2, if_pos (by omega), show (i - L) % 4 = i - (L + 4) by omega]; rfl
    · rw [e, h5, if_neg (by omega), h4, if_neg (by omega), h3, if_pos (by omega), show (i - L) % 4 = i - (L + 8) by omega]; rfl
    · rw [e, h5, if_neg (by omega), h4, if_pos (by omega), show (i - L) % 4 = i - (L + 12) by omega]; rfl
    · rw [e, h5, if_pos (by omega), show (i - L) % 4 = i - (L + 16) by omega]; rfl
  · rw [if_neg c, h5, if_neg (by omega), h4, if_neg (by omega), h3, if_neg (by omega), h2, if_neg (by omega), h1, if_neg (by omega)]
theorem put_st {B0 B1 B2 : Nat → Int} {L k : Nat} {x : Int32} {v : Int} (u : ∀ i, B1 i = if L ≤ i ∧ i < L + k then fb x (i - L) else B0 i) (hq : ∀ i, B2 i = if i = L + k then v else B1 i) (hv : v = fb x k) : ∀ i, B2 i = if L ≤ i ∧ i < L + (k + 1) then fb x (i - L) else B0 i := by
  intro i
  rw [hq i]
  by_cases c : i = L + k
  · rw [if_pos c, if_pos (by omega), hv, show i - L = k by omega]
  · rw [if_neg c, u i]
    by_cases c8 : L ≤ i ∧ i < L + k
    · rw [if_pos c8, if_pos (by omega)]
    · rw [if_neg c8, if_neg (by omega)]
theorem putm_st {B0 B1 B2 : Nat → Int} {L k : Nat} {f : Nat → Int} {v : Int} (u : ∀ i, B1 i = if L ≤ i ∧ i < L + k then f (i - L) else B0 i) (hq : ∀ i, B2 i = if i = L + k then v else B1 i) (hv : v = f k) : ∀ i, B2 i = if L ≤ i ∧ i < L + (k + 1) then f (i - L) else B0 i := by
  intro i
  rw [hq i]
  by_cases c : i = L + k
  · rw [if_pos c, if_pos (by omega), hv, show i - L = k by omega]
  · rw [if_neg c, u i]
    by_cases c8 : L ≤ i ∧ i < L + k
    · rw [if_pos c8, if_pos (by omega)]
    · rw [if_neg c8, if_neg (by omega)]
theorem five5 {x1 x2 x3 x4 x5 : Int32} {F0 F1 F2 F3 F4 F5 : Nat → Int32} (h1 : ∀ j, F1 j = if j = 0 then x1 else F0 j) (h2 : ∀ j, F2 j = if j = 1 then x2 else F1 j) (h3 : ∀ j, F3 j = if j = 2 then x3 else F2 j) (h4 : ∀ j, F4 j = if j = 3 then x4 else F3 j) (h5 : ∀ j, F5 j = if j = 4 then x5 else F4 j) : ∀ m, m < 5 → F5 m = pk5 x1 x2 x3 x4 x5 m := by
  intro m hm
  have hc : m = 0 ∨ m = 1 ∨ m = 2 ∨ m = 3 ∨ m = 4 := by omega
  rcases hc with e | e | e | e | e <;> subst e
  · rw [h5, if_neg (by decide), h4, if_neg (by decide), h3, if_neg (by decide), h2, if_neg (by decide), h1, if_pos rfl]; rfl
  · rw [h5, if_neg (by decide), h4, if_neg (by decide), h3, if_neg (by decide), h2, if_pos rfl]; rfl
  · rw [h5, if_neg (by decide), h4, if_neg (by decide), h3, if_pos rfl]; rfl
  · rw [h5, if_neg (by decide), h4, if_pos rfl]; rfl
  · rw [h5, if_pos rfl]; rfl