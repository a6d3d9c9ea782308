/-! the law's grammar over things: (right, the next thing's begin), or (wrong, the first wrong byte) -/
abbrev Rz : Type := Bool × Nat
def srt (T : Tx) (b : Nat) : Int := if isW T b w_tax = true then 0 else if isW T b w_free = true then 1 else if isW T b w_find = true then 2 else -1
def tru (T : Tx) (b : Nat) : Int := if isW T b w_paper = true then -2 else if isW T b w_fire = true then -3 else if isW T b w_oven = true then -4 else if isW T b w_forge = true then -5 else if isW T b w_pot = true then -6 else -1
def prt (T : Tx) (b : Nat) : Bool := decide (kd T b = 2 ∧ nv T b ≤ 999) || isW T b w_house || isW T b w_flue || isW T b w_warm || isW T b w_hearths || isW T b w_windows || isW T b w_quarter
def sumR (T : Tx) : Nat → Nat → Rz
  | 0, b => (false, b)
  | n + 1, b => if prt T b = true then (if isS T (nx T b) 43 = true then sumR T n (nx T (nx T b)) else (true, nx T b)) else (false, b)
def sumF (T : Tx) (b : Nat) : Rz := sumR T 400 b
def cmpF (T : Tx) (b : Nat) : Rz := if (sumF T b).1 = true then (if isS T (sumF T b).2 60 = true ∨ isS T (sumF T b).2 62 = true then sumF T (nx T (sumF T b).2) else (false, (sumF T b).2)) else (false, (sumF T b).2)
def conR (T : Tx) (at9 : Nat → Rz) : Nat → Nat → Rz
  | 0, b => (false, b)
  | n + 1, b => if (at9 b).1 = true then (if isW T (at9 b).2 w_and = true ∨ isW T (at9 b).2 w_or = true then conR T at9 n (nx T (at9 b).2) else (true, (at9 b).2)) else (false, (at9 b).2)
def conF (T : Tx) (at9 : Nat → Rz) (b : Nat) : Rz := conR T at9 400 b
def tkS (T : Tx) (b : Nat) (c : Int) : Rz := if isS T b c = true then (true, nx T b) else (false, b)
def tkW (T : Tx) (b : Nat) (w : List Nat) : Rz := if isW T b w = true then (true, nx T b) else (false, b)
def clo (T : Tx) (z : Rz) : Rz := if z.1 = true then tkS T z.2 41 else (false, z.2)
def tlF (T : Tx) (b : Nat) : Rz := if tru T b = -1 then cmpF T b else (true, nx T b)
/-- an atom that may hold so many more ( and not within one another -/
def atm (T : Tx) : Nat → Nat → Rz
  | 0, b => if isW T b w_not = true ∨ isS T b 40 = true then (false, b) else tlF T b
  | r + 1, b => if isW T b w_not = true then atm T r (nx T b) else if isS T b 40 = true then clo T (conF T (atm T r) (nx T b)) else tlF T b
def numE (T : Tx) (b : Nat) : Rz := if srt T b = 1 then (true, nx T b) else if num T (nx T b) 0 99 = -1 then (false, nx T b) else (true, nx T (nx T b))
def linF (T : Tx) (b : Nat) : Rz := if srt T b = -1 then (false, b) else if (numE T b).1 = true then (if isW T (numE T b).2 w_if = true then conF T (atm T 6) (nx T (numE T b).2) else (true, (numE T b).2)) else (false, (numE T b).2)
/-- lines behind one another, at most so many: right or not, where, how many -/
def lnsR (T : Tx) (li : Nat → Rz) : Nat → Nat → Nat → Bool × Nat × Nat
  | 0, b, k => (false, b, k)
  | m + 1, b, k => if kd T b = 1 then (if (li b).1 = true then (if kd T (li b).2 = 0 then (true, (li b).2, k + 1) else if (tkS T (li b).2 59).1 = true then lnsR T li m (tkS T (li b).2 59).2 (k + 1) else (false, (tkS T (li b).2 59).2, k + 1)) else (false, (li b).2, k)) else (false, b, k)
theorem lnsR_e (T : Tx) (li : Nat → Rz) (m b k : Nat) : lnsR T li (m + 1) b k = if kd T b = 1 then (if (li b).1 = true then (if kd T (li b).2 = 0 then (true, (li b).2, k + 1) else if (tkS T (li b).2 59).1 = true then lnsR T li m (tkS T (li b).2 59).2 (k + 1) else (false, (tkS T (li b).2 59).2, k + 1)) else (false, (li b).2, k)) else (false, b, k) := rfl
def lawF (T : Tx) : Bool × Nat × Nat := if kd T (sk T 0) = 0 then (true, sk T 0, 0) else lnsR T (linF T) 12 (sk T 0) 0
theorem sumR_e (T : Tx) (n b : Nat) : sumR T (n + 1) b = if prt T b = true then (if isS T (nx T b) 43 = true then sumR T n (nx T (nx T b)) else (true, nx T b)) else (false, b) := rfl
theorem conR_e (T : Tx) (at9 : Nat → Rz) (n b : Nat) : conR T at9 (n + 1) b = if (at9 b).1 = true then (if isW T (at9 b).2 w_and = true ∨ isW T (at9 b).2 w_or = true then conR T at9 n (nx T (at9 b).2) else (true, (at9 b).2)) else (false, (at9 b).2) := rfl
section Gram
variable {T : Tx} {b c n m : Nat}
theorem prt_b (h : prt T b = true) : kd T b ≠ 0 := by
  intro z
  have hk : kd T b ≠ 1 := by omega
  have h2 : ¬ (kd T b = 2 ∧ nv T b ≤ 999) := by omega
  unfold prt at h
  rw [isW_no hk, isW_no hk, isW_no hk, isW_no hk, isW_no hk, isW_no hk, decide_eq_false h2] at h
  exact absurd h (by decide)
theorem isS_b {x : Int} (h : isS T b x = true) : b < T.2 := (isS_t.mp h).1
theorem kd_in (h : b < T.2) : kd T b ≠ 0 := fun z => by
  have := kd_e.mp z
  omega
/-- more room changes nothing -/
theorem sumR_big : ∀ (n m b : Nat), T.2 < b + n → T.2 < b + m → 0 < n → 0 < m → sumR T n b = sumR T m b
  | 0, _, _, _, _, h, _ => absurd h (by omega)
  | _ + 1, 0, _, _, _, _, h => absurd h (by omega)
  | n + 1, m + 1, b, h1, h2, _, _ => by
    rw [sumR_e T n b, sumR_e T m b]
    by_cases hp : prt T b = true
    · rw [if_pos hp, if_pos hp]
      by_cases hs : isS T (nx T b) 43 = true
      · rw [if_pos hs, if_pos hs]
        have a1 := nx_lt (prt_b hp)
        have a2 := nx_lt (kd_in (isS_b hs))
        have a3 := isS_b hs
        exact sumR_big n m _ (by omega) (by omega) (by omega) (by omega)
      · rw [if_neg hs, if_neg hs]
    · rw [if_neg hp, if_neg hp]
theorem sumF_fix (hT : T.2 ≤ 400) : sumF T b = if prt T b = true then (if isS T (nx T b) 43 = true then sumF T (nx T (nx T b)) else (true, nx T b)) else (false, b) := by
  show sumR T (399 + 1) b = _
  rw [sumR_e T 399 b]
  by_cases hp : prt T b = true
  · rw [if_pos hp, if_pos hp]
    by_cases hs : isS T (nx T b) 43 = true
    · rw [if_pos hs, if_pos hs]
      have a1 := nx_lt (prt_b hp)
      have a2 := nx_lt (kd_in (isS_b hs))
      exact sumR_big 399 400 _ (by omega) (by omega) (by omega) (by omega)
    · rw [if_neg hs, if_neg hs]
  · rw [if_neg hp, if_neg hp]
/-- a part of the grammar that goes on -/
def Gon (f : Nat → Rz) : Prop := ∀ b, (f b).1 = true → b < (f b).2
theorem conR_big {at9 : Nat → Rz} (hg : Gon at9) : ∀ (n m b : Nat), T.2 < b + n → T.2 < b + m → 0 < n → 0 < m → conR T at9 n b = conR T at9 m b
  | 0, _, _, _, _, h, _ => absurd h (by omega)
  | _ + 1, 0, _, _, _, _, h => absurd h (by omega)
  | n + 1, m + 1, b, h1, h2, _, _ => by
    rw [conR_e T at9 n b, conR_e T at9 m b]
    by_cases hp : (at9 b).1 = true
    · rw [if_pos hp, if_pos hp]
      by_cases hs : isW T (at9 b).2 w_and = true ∨ isW T (at9 b).2 w_or = true
      · rw [if_pos hs, if_pos hs]
        have a1 := hg b hp
        have k1 : kd T (at9 b).2 = 1 := hs.elim isW_k isW_k
        have a2 := nx_lt (T := T) (b := (at9 b).2) (by omega)
        have a3 := kd_b (T := T) (b := (at9 b).2) (by omega)
        exact conR_big hg n m _ (by omega) (by omega) (by omega) (by omega)
      · rw [if_neg hs, if_neg hs]
    · rw [if_neg hp, if_neg hp]
theorem conF_fix {at9 : Nat → Rz} (hg : Gon at9) (hT : T.2 ≤ 400) : conF T at9 b = if (at9 b).1 = true then (if isW T (at9 b).2 w_and = true ∨ isW T (at9 b).2 w_or = true then conF T at9 (nx T (at9 b).2) else (true, (at9 b).2)) else (false, (at9 b).2) := by
  show conR T at9 (399 + 1) b = _
  rw [conR_e T at9 399 b]
  by_cases hp : (at9 b).1 = true
  · rw [if_pos hp, if_pos hp]
    by_cases hs : isW T (at9 b).2 w_and = true ∨ isW T (at9 b).2 w_or = true
    · rw [if_pos hs, if_pos hs]
      have a1 := hg b hp
      have k1 : kd T (at9 b).2 = 1 := hs.elim isW_k isW_k
      have a2 := nx_lt (T := T) (b := (at9 b).2) (by omega)
      exact conR_big hg 399 400 _ (by omega) (by omega) (by omega) (by omega)
    · rw [if_neg hs, if_neg hs]
  · rw [if_neg hp, if_neg hp]
theorem sumR_on : ∀ (n b : Nat), (sumR T n b).1 = true → b < (sumR T n b).2
  | 0, _, h => absurd h (by simp [sumR])
  | n + 1, b, h => by
    rw [sumR_e T n b] at h ⊢
    by_cases hp : prt T b = true
    · rw [if_pos hp] at h ⊢
      have a1 := nx_lt (prt_b hp)
      by_cases hs : isS T (nx T b) 43 = true
      · rw [if_pos hs] at h ⊢
        have a2 := nx_lt (kd_in (isS_b hs))
        have := sumR_on n _ h
        omega
      · rw [if_neg hs]
        exact a1
    · rw [if_neg hp] at h
      exact absurd h Bool.false_ne_true
theorem sumF_on : Gon (sumF T) := fun b h => sumR_on 400 b h
theorem cmpF_on : Gon (cmpF T) := by
  intro b h
  unfold cmpF at h ⊢
  by_cases h1 : (sumF T b).1 = true
  · rw [if_pos h1] at h ⊢
    have a1 := sumF_on b h1
    by_cases h2 : isS T (sumF T b).2 60 = true ∨ isS T (sumF T b).2 62 = true
    · rw [if_pos h2] at h ⊢
      have a2 := nx_lt (T := T) (b := (sumF T b).2) (kd_in (h2.elim isS_b isS_b))
      have a3 := sumF_on _ h
      omega
    · rw [if_neg h2] at h
      exact absurd h Bool.false_ne_true
  · rw [if_neg h1] at h
    exact absurd h Bool.false_ne_true
theorem tru_k (h : tru T b ≠ -1) : kd T b = 1 := by
  apply Classical.byContradiction
  intro hk
  apply h
  unfold tru
  rw [isW_no hk, isW_no hk, isW_no hk, isW_no hk, isW_no hk]
  rfl
theorem tlF_on : Gon (tlF T) := by
  intro b h
  unfold tlF at h ⊢
  by_cases h1 : tru T b = -1
  · rw [if_pos h1] at h ⊢
    exact cmpF_on b h
  · rw [if_neg h1]
    exact nx_lt (by rw [tru_k h1]; decide)
theorem conR_on {at9 : Nat → Rz} (hg : Gon at9) : ∀ (n b : Nat), (conR T at9 n b).1 = true → b < (conR T at9 n b).2
  | 0, _, h => absurd h (by simp [conR])
  | n + 1, b, h => by
    rw [conR_e T at9 n b] at h ⊢
    by_cases hp : (at9 b).1 = true
    · rw [if_pos hp] at h ⊢
      have a1 := hg b hp
      by_cases hs : isW T (at9 b).2 w_and = true ∨ isW T (at9 b).2 w_or = true
      · rw [if_pos hs] at h ⊢
        have k1 : kd T (at9 b).2 = 1 := hs.elim isW_k isW_k
        have a2 := nx_lt (T := T) (b := (at9 b).2) (by omega)
        have := conR_on hg n _ h
        omega
      · rw [if_neg hs]
        exact a1
    · rw [if_neg hp] at h
      exact absurd h Bool.false_ne_true
theorem clo_on {z : Rz} (h : (clo T z).1 = true) : z.1 = true ∧ z.2 < (clo T z).2 := by
  unfold clo at h ⊢
  by_cases h1 : z.1 = true
  · rw [if_pos h1] at h ⊢
    unfold tkS at h ⊢
    by_cases h2 : isS T z.2 41 = true
    · rw [if_pos h2]
      exact ⟨h1, nx_lt (kd_in (isS_b h2))⟩
    · rw [if_neg h2] at h
      exact absurd h Bool.false_ne_true
  · rw [if_neg h1] at h
    exact absurd h Bool.false_ne_true
theorem atm_z9 : atm T 0 b = if isW T b w_not = true ∨ isS T b 40 = true then (false, b) else tlF T b := rfl
theorem atm_s9 (r : Nat) : atm T (r + 1) b = if isW T b w_not = true then atm T r (nx T b) else if isS T b 40 = true then clo T (conF T (atm T r) (nx T b)) else tlF T b := rfl
theorem atm_on : ∀ r : Nat, Gon (atm T r)
  | 0 => by
    intro b h
    rw [atm_z9] at h ⊢
    by_cases h1 : isW T b w_not = true ∨ isS T b 40 = true
    · rw [if_pos h1] at h
      exact absurd h Bool.false_ne_true
    · rw [if_neg h1] at h ⊢
      exact tlF_on b h
  | r + 1 => by
    intro b h
    rw [atm_s9] at h ⊢
    by_cases h1 : isW T b w_not = true
    · rw [if_pos h1] at h ⊢
      have a1 := nx_lt (T := T) (b := b) (by rw [isW_k h1]; decide)
      have a2 := atm_on r _ h
      omega
    · rw [if_neg h1] at h ⊢
      by_cases h2 : isS T b 40 = true
      · rw [if_pos h2] at h ⊢
        have a1 := nx_lt (T := T) (b := b) (kd_in (isS_b h2))
        have a2 := clo_on h
        have a3 := conR_on (atm_on r) 400 _ a2.1
        have a4 : nx T b < (conF T (atm T r) (nx T b)).2 := a3
        omega
      · rw [if_neg h2] at h ⊢
        exact tlF_on b h
/-- ALL { or ALL } with ALL: ATOM { and ATOM } is ATOMS with and or or between them -/
def allR (T : Tx) (at9 : Nat → Rz) : Nat → Nat → Rz
  | 0, b => (false, b)
  | n + 1, b => if (at9 b).1 = true then (if isW T (at9 b).2 w_and = true then allR T at9 n (nx T (at9 b).2) else (true, (at9 b).2)) else (false, (at9 b).2)
theorem allR_e (T : Tx) (at9 : Nat → Rz) (n b : Nat) : allR T at9 (n + 1) b = if (at9 b).1 = true then (if isW T (at9 b).2 w_and = true then allR T at9 n (nx T (at9 b).2) else (true, (at9 b).2)) else (false, (at9 b).2) := rfl
def allF (T : Tx) (at9 : Nat → Rz) (b : Nat) : Rz := allR T at9 400 b
theorem allR_big {at9 : Nat → Rz} (hg : Gon at9) : ∀ (n m b : Nat), T.2 < b + n → T.2 < b + m → 0 < n → 0 < m → allR T at9 n b = allR T at9 m b
  | 0, _, _, _, _, h, _ => absurd h (by omega)
  | _ + 1, 0, _, _, _, _, h => absurd h (by omega)
  | n + 1, m + 1, b, h1, h2, _, _ => by
    rw [allR_e T at9 n b, allR_e T at9 m b]
    by_cases hp : (at9 b).1 = true
    · rw [if_pos hp, if_pos hp]
      by_cases hs : isW T (at9 b).2 w_and = true
      · rw [if_pos hs, if_pos hs]
        have a1 := hg b hp
        have k1 : kd T (at9 b).2 = 1 := isW_k hs
        have a2 := nx_lt (T := T) (b := (at9 b).2) (by omega)
        have a3 := kd_b (T := T) (b := (at9 b).2) (by omega)
        exact allR_big hg n m _ (by omega) (by omega) (by omega) (by omega)
      · rw [if_neg hs, if_neg hs]
    · rw [if_neg hp, if_neg hp]
theorem allF_fix {at9 : Nat → Rz} (hg : Gon at9) (hT : T.2 ≤ 400) : allF T at9 b = if (at9 b).1 = true then (if isW T (at9 b).2 w_and = true then allF T at9 (nx T (at9 b).2) else (true, (at9 b).2)) else (false, (at9 b).2) := by
  show allR T at9 (399 + 1) b = _
  rw [allR_e T at9 399 b]
  by_cases hp : (at9 b).1 = true
  · rw [if_pos hp, if_pos hp]
    by_cases hs : isW T (at9 b).2 w_and = true
    · rw [if_pos hs, if_pos hs]
      have a1 := hg b hp
      have k1 : kd T (at9 b).2 = 1 := isW_k hs
      have a2 := nx_lt (T := T) (b := (at9 b).2) (by omega)
      exact allR_big hg 399 400 _ (by omega) (by omega) (by omega) (by omega)
    · rw [if_neg hs, if_neg hs]
  · rw [if_neg hp, if_neg hp]
theorem conF_all {at9 : Nat → Rz} (hg : Gon at9) (hT : T.2 ≤ 400) : ∀ (k b : Nat), T.2 < b + k → 0 < k → conF T at9 b = if (allF T at9 b).1 = true then (if isW T (allF T at9 b).2 w_or = true then conF T at9 (nx T (allF T at9 b).2) else (true, (allF T at9 b).2)) else (false, (allF T at9 b).2)
  | 0, _, _, h => absurd h (by omega)
  | k + 1, b, hb, _ => by
    rw [conF_fix (b := b) hg hT, allF_fix (b := b) hg hT]
    by_cases hp : (at9 b).1 = true
    · rw [if_pos hp, if_pos hp]
      have a1 := hg b hp
      by_cases hs : isW T (at9 b).2 w_and = true
      · rw [if_pos (Or.inl hs), if_pos hs]
        have k1 : kd T (at9 b).2 = 1 := isW_k hs
        have a2 := nx_lt (T := T) (b := (at9 b).2) (by omega)
        have a3 := kd_b (T := T) (b := (at9 b).2) (by omega)
        exact conF_all hg hT k _ (by omega) (by omega)
      · rw [if_neg hs, if_pos (show ((true, (at9 b).2) : Rz).1 = true from rfl)]
        by_cases ho : isW T (at9 b).2 w_or = true
        · rw [if_pos (Or.inr ho), if_pos ho]
        · rw [if_neg (fun z => z.elim hs ho), if_neg ho]
    · rw [if_neg hp, if_neg hp, if_neg (show ¬ ((false, (at9 b).2) : Rz).1 = true from Bool.false_ne_true)]
theorem conF_or {at9 : Nat → Rz} (hg : Gon at9) (hT : T.2 ≤ 400) : conF T at9 b = if (allF T at9 b).1 = true then (if isW T (allF T at9 b).2 w_or = true then conF T at9 (nx T (allF T at9 b).2) else (true, (allF T at9 b).2)) else (false, (allF T at9 b).2) := conF_all hg hT 500 b (by omega) (by omega)
end Gram
/-! what the reference's readers read -/
def prtR (T : Tx) (b : Nat) : Rz := if prt T b = true then (true, nx T b) else (false, b)
def sumT (T : Tx) (c : Nat) : Rz := if isS T c 43 = true then sumF T (nx T c) else (true, c)
def tagB (T : Tx) (b : Nat) : Bool := decide (tru T b ≠ -1)
def allT (T : Tx) (at9 : Nat → Rz) (c : Nat) : Rz := if isW T c w_and = true then allF T at9 (nx T c) else (true, c)
def conT (T : Tx) (at9 : Nat → Rz) (c : Nat) : Rz := if isW T c w_or = true then conF T at9 (nx T c) else (true, c)
section Refs
variable {T : Tx} {b c e : Nat} {at9 : Nat → Rz}
theorem prtR_t (h : prtR T b = (true, c)) : prt T b = true ∧ c = nx T b := by
  unfold prtR at h
  by_cases hp : prt T b = true
  · rw [if_pos hp] at h
    exact ⟨hp, (Prod.mk.inj h).2.symm⟩
  · rw [if_neg hp] at h
    exact absurd (Prod.mk.inj h).1 Bool.false_ne_true
theorem prtR_f (h : prtR T b = (false, e)) : ¬ prt T b = true ∧ e = b := by
  unfold prtR at h
  by_cases hp : prt T b = true
  · rw [if_pos hp] at h
    exact absurd (Prod.mk.inj h).1.symm Bool.false_ne_true
  · rw [if_neg hp] at h
    exact ⟨hp, (Prod.mk.inj h).2.symm⟩
theorem sum_in (hT : T.2 ≤ 400) (h : prtR T b = (true, c)) : sumF T b = sumT T c := by
  obtain ⟨h1, rfl⟩ := prtR_t h
  rw [sumF_fix hT, if_pos h1]
  rfl
theorem sum_no (hT : T.2 ≤ 400) (h : prtR T b = (false, e)) : sumF T b = (false, e) := by
  obtain ⟨h1, rfl⟩ := prtR_f h
  rw [sumF_fix hT, if_neg h1]
theorem sumT_t (h : isS T c 43 = true) : sumT T c = sumF T (nx T c) := if_pos h
theorem sumT_f (h : isS T c 43 = false) : sumT T c = (true, c) := if_neg (by rw [h]; decide)
theorem all_in (hg : Gon at9) (hT : T.2 ≤ 400) (h : at9 b = (true, c)) : allF T at9 b = allT T at9 c := by
  rw [allF_fix hg hT, h, if_pos (show ((true, c) : Rz).1 = true from rfl)]
  rfl
theorem all_no (hg : Gon at9) (hT : T.2 ≤ 400) (h : at9 b = (false, e)) : allF T at9 b = (false, e) := by
  rw [allF_fix hg hT, h, if_neg (show ¬ ((false, e) : Rz).1 = true from Bool.false_ne_true)]
theorem allT_t (h : isW T c w_and = true) : allT T at9 c = allF T at9 (nx T c) := if_pos h
theorem allT_f (h : isW T c w_and = false) : allT T at9 c = (true, c) := if_neg (by rw [h]; decide)
theorem con_in (hg : Gon at9) (hT : T.2 ≤ 400) (h : allF T at9 b = (true, c)) : conF T at9 b = conT T at9 c := by
  rw [conF_or hg hT, h, if_pos (show ((true, c) : Rz).1 = true from rfl)]
  rfl
theorem con_no (hg : Gon at9) (hT : T.2 ≤ 400) (h : allF T at9 b = (false, e)) : conF T at9 b = (false, e) := by
  rw [conF_or hg hT, h, if_neg (show ¬ ((false, e) : Rz).1 = true from Bool.false_ne_true)]
theorem conT_t (h : isW T c w_or = true) : conT T at9 c = conF T at9 (nx T c) := if_pos h
theorem conT_f (h : isW T c w_or = false) : conT T at9 c = (true, c) := if_neg (by rw [h]; decide)
theorem tag_t (h : tagB T b = true) : ¬ tru T b = -1 := of_decide_eq_true h
theorem tag_f (h : tagB T b = false) : tru T b = -1 := Classical.not_not.mp (of_decide_eq_false h)
theorem nv_nn (h : kd T b = 2) : 0 ≤ nv T b := by
  unfold nv
  split
  · rename_i h9
    rw [af_n h] at h9 ⊢
    exact (dc_r (T := T) (b := b) _ (fun j hj => (tdi_t.mp (rn_all (P := tdi T) 500 b (b + j) (by omega) (by omega))).2) h9).1
  · decide
theorem prt_num (hk : kd T b ≠ 1) (h : num T b 0 999 ≠ -1) : prt T b = true := by
  rcases num_r (T := T) (b := b) (lo := 0) (hi := 999) (by decide) with h1 | ⟨h1, h2, h3, h4⟩
  · exact absurd h1 h
  · unfold prt
    rw [decide_eq_true (show kd T b = 2 ∧ nv T b ≤ 999 from ⟨h1, by omega⟩)]
    simp
theorem prt_non (hk : kd T b ≠ 1) (h : num T b 0 999 = -1) : ¬ prt T b = true := by
  intro z
  unfold prt at z
  rw [isW_no hk, isW_no hk, isW_no hk, isW_no hk, isW_no hk, isW_no hk] at z
  simp at z
  have h3 := nv_nn z.1
  unfold num at h
  rw [if_pos ⟨z.1, h3, z.2⟩] at h
  omega
theorem srt_k (h : srt T b ≠ -1) : kd T b = 1 := by
  apply Classical.byContradiction
  intro hk
  apply h
  unfold srt
  rw [isW_no hk, isW_no hk, isW_no hk]
  rfl
theorem lin_k (hk : kd T b ≠ 1) : linF T b = (false, b) := by
  unfold linF
  rw [if_pos (Classical.byContradiction fun z => hk (srt_k z))]
theorem isS_nW {w : List Nat} (h : isS T b 40 = true) : isW T b w = false := isW_no (by rw [isS_k (c := 40) (by decide) h]; decide)
end Refs
section Steps
variable {T : Tx} {b c e n m k : Nat} {at9 li : Nat → Rz}
theorem sumR_no (h : 0 < n) (hp : prt T b = false) : sumR T n b = (false, b) := by
  obtain ⟨m, rfl⟩ : ∃ m, n = m + 1 := ⟨n - 1, by omega⟩
  rw [sumR_e T m b, if_neg (by rw [hp]; decide)]
theorem sumR_ok (h : 0 < n) (hp : prt T b = true) (hs : isS T (nx T b) 43 = false) : sumR T n b = (true, nx T b) := by
  obtain ⟨m, rfl⟩ : ∃ m, n = m + 1 := ⟨n - 1, by omega⟩
  rw [sumR_e T m b, if_pos hp, if_neg (by rw [hs]; decide)]
theorem sumR_st (h : n = m + 1) (hp : prt T b = true) (hs : isS T (nx T b) 43 = true) : sumR T n b = sumR T m (nx T (nx T b)) := by
  subst h
  rw [sumR_e T m b, if_pos hp, if_pos hs]
theorem conR_no (h : 0 < n) (ha : at9 b = (false, e)) : conR T at9 n b = (false, e) := by
  obtain ⟨m, rfl⟩ : ∃ m, n = m + 1 := ⟨n - 1, by omega⟩
  rw [conR_e T at9 m b, ha, if_neg (show ¬ ((false, e) : Rz).1 = true from Bool.false_ne_true)]
theorem conR_ok (h : 0 < n) (ha : at9 b = (true, c)) (h1 : isW T c w_and = false) (h2 : isW T c w_or = false) : conR T at9 n b = (true, c) := by
  obtain ⟨m, rfl⟩ : ∃ m, n = m + 1 := ⟨n - 1, by omega⟩
  rw [conR_e T at9 m b, ha, if_pos (show ((true, c) : Rz).1 = true from rfl), if_neg (by show ¬ (isW T c w_and = true ∨ isW T c w_or = true); rw [h1, h2]; decide)]
theorem conR_st (h : n = m + 1) (ha : at9 b = (true, c)) (h1 : isW T c w_and = true ∨ isW T c w_or = true) : conR T at9 n b = conR T at9 m (nx T c) := by
  subst h
  rw [conR_e T at9 m b, ha, if_pos (show ((true, c) : Rz).1 = true from rfl), if_pos (show isW T ((true, c) : Rz).2 w_and = true ∨ isW T ((true, c) : Rz).2 w_or = true from h1)]
theorem atm_z : atm T 0 b = if isW T b w_not = true ∨ isS T b 40 = true then (false, b) else tlF T b := rfl
theorem atm_s (r : Nat) : atm T (r + 1) b = if isW T b w_not = true then atm T r (nx T b) else if isS T b 40 = true then clo T (conF T (atm T r) (nx T b)) else tlF T b := rfl
theorem lns_k (h : n = m + 1) (hk : kd T b ≠ 1) : lnsR T li n b k = (false, b, k) := by
  subst h
  rw [lnsR_e T li m b k, if_neg hk]
theorem lns_no (h : n = m + 1) (hk : kd T b = 1) (hl : li b = (false, e)) : lnsR T li n b k = (false, e, k) := by
  subst h
  rw [lnsR_e T li m b k, if_pos hk, hl, if_neg (show ¬ ((false, e) : Rz).1 = true from Bool.false_ne_true)]
theorem lns_end (h : n = m + 1) (hk : kd T b = 1) (hl : li b = (true, c)) (he : kd T c = 0) : lnsR T li n b k = (true, c, k + 1) := by
  subst h
  rw [lnsR_e T li m b k, if_pos hk, hl, if_pos (show ((true, c) : Rz).1 = true from rfl), if_pos (show kd T ((true, c) : Rz).2 = 0 from he)]
theorem lns_st {d : Nat} (h : n = m + 1) (hk : kd T b = 1) (hl : li b = (true, c)) (he : kd T c ≠ 0) (hs : tkS T c 59 = (true, d)) : lnsR T li n b k = lnsR T li m d (k + 1) := by
  subst h
  rw [lnsR_e T li m b k, if_pos hk, hl, if_pos (show ((true, c) : Rz).1 = true from rfl), if_neg (show ¬ kd T ((true, c) : Rz).2 = 0 from he)]
  show (if (tkS T c 59).1 = true then _ else _) = _
  rw [hs, if_pos (show ((true, d) : Rz).1 = true from rfl)]
theorem lns_sg (h : n = m + 1) (hk : kd T b = 1) (hl : li b = (true, c)) (he : kd T c ≠ 0) (hs : tkS T c 59 = (false, e)) : lnsR T li n b k = (false, e, k + 1) := by
  subst h
  rw [lnsR_e T li m b k, if_pos hk, hl, if_pos (show ((true, c) : Rz).1 = true from rfl), if_neg (show ¬ kd T ((true, c) : Rz).2 = 0 from he)]
  show (if (tkS T c 59).1 = true then _ else _) = _
  rw [hs, if_neg (show ¬ ((false, e) : Rz).1 = true from Bool.false_ne_true)]
end Steps
