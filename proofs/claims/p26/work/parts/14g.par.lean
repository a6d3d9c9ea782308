/-! the parish's lines over things. What they count: 0 houses, 1 hearths, 2 texts, 3 to 14 whose the hearths are, 15 visit, 16 to 21 what tells -/
abbrev Sg : Type := Nat → Int
def sup (s : Sg) (k : Nat) (v : Int) : Sg := fun i => if i = k then v else s i
theorem sup_s (s : Sg) (k : Nat) (v : Int) : sup s k v k = v := if_pos rfl
theorem sup_o (s : Sg) {k i : Nat} (v : Int) (h : i ≠ k) : sup s k v i = s i := if_neg h
/-- the hearths of a house among the first n, as bits -/
def bto (s : Sg) (h : Int) : Nat → Nat
  | 0 => 0
  | n + 1 => if s (3 + n) = h then bto s h n + 2 ^ n else bto s h n
theorem bto_lt (s : Sg) (h : Int) : ∀ n : Nat, bto s h n < 2 ^ n
  | 0 => by show (0 : Nat) < 1; decide
  | n + 1 => by
    have h1 := bto_lt s h n
    show (if s (3 + n) = h then bto s h n + 2 ^ n else bto s h n) < 2 ^ (n + 1)
    rw [Nat.pow_succ]
    split <;> omega
theorem bto_s {s : Sg} {h : Int} {n : Nat} (e : s (3 + n) = h) : bto s h (n + 1) = bto s h n + 2 ^ n := if_pos e
theorem bto_o {s : Sg} {h : Int} {n : Nat} (e : s (3 + n) ≠ h) : bto s h (n + 1) = bto s h n := if_neg e
theorem bto_eq {s t : Sg} {h : Int} : ∀ n : Nat, (∀ j, j < n → s (3 + j) = t (3 + j)) → bto s h n = bto t h n
  | 0, _ => rfl
  | n + 1, hh => by
    have h1 := bto_eq (h := h) n (fun j hj => hh j (by omega))
    show (if s (3 + n) = h then bto s h n + 2 ^ n else bto s h n) = if t (3 + n) = h then bto t h n + 2 ^ n else bto t h n
    rw [h1, hh n (by omega)]
/-- ones among twelve bits -/
def ones (n : Nat) : Nat := n % 2 + n / 2 % 2 + n / 4 % 2 + n / 8 % 2 + n / 16 % 2 + n / 32 % 2 + n / 64 % 2 + n / 128 % 2 + n / 256 % 2 + n / 512 % 2 + n / 1024 % 2 + n / 2048 % 2
abbrev Rp : Type := Bool × Nat × Sg
/-- a word, a number behind it: right or not, where, the number -/
def wnm (T : Tx) (b : Nat) (w : List Nat) (lo hi : Int) : Bool × Nat × Int := if isW T b w = true then (if num T (nx T b) lo hi = -1 then (false, nx T b, 0) else (true, nx T (nx T b), num T (nx T b) lo hi)) else (false, b, 0)
def kin (T : Tx) (b : Nat) : Int := if isW T b w_fire = true then 0 else if isW T b w_oven = true then 1 else if isW T b w_forge = true then 2 else if isW T b w_pot = true then 3 else -1
/-- a house more, that tells v -/
def hup (s : Sg) (v : Int) : Sg := sup (sup s (16 + (s 0).toNat) v) 0 (s 0 + 1)
/-- behind windows N: [ paper ] [ tells N ] -/
def houT (T : Tx) (s : Sg) (c : Nat) : Rp := if isW T c w_tells = true then (if num T (nx T c) 0 100 = -1 then (false, nx T c, s) else (true, nx T (nx T c), hup s (num T (nx T c) 0 100))) else (true, c, hup s 0)
def houP (T : Tx) (s : Sg) (c : Nat) : Rp := if isW T c w_paper = true then houT T s (nx T c) else houT T s c
def houW (T : Tx) (s : Sg) (c : Nat) : Rp := if isW T c w_windows = true then (if num T (nx T c) 0 30 = -1 then (false, nx T c, s) else houP T s (nx T (nx T c))) else (false, c, s)
def houF (T : Tx) (s : Sg) (b : Nat) : Rp := if s 0 = 6 then (false, b, s) else if num T (nx T b) 0 999 = -1 then (false, nx T b, s) else houW T s (nx T (nx T b))
def seeF (T : Tx) (s : Sg) (b : Nat) : Rp := if num T (nx T b) 0 4 = -1 then (false, nx T b, s) else if num T (nx T (nx T b)) 0 (s 0 - 1) = -1 then (false, nx T (nx T b), s) else (true, nx T (nx T (nx T b)), s)
/-- a hearth more, of house h -/
def fup (s : Sg) (h : Int) : Sg := sup (sup s (3 + (s 1).toNat) h) 1 (s 1 + 1)
/-- flue N warm N wall N of a hearth of house h -/
def hea3 (T : Tx) (s : Sg) (h : Int) (c : Nat) : Rp := if isW T c w_wall = true then (if num T (nx T c) 1 30 = -1 then (false, nx T c, s) else (true, nx T (nx T c), fup s h)) else (false, c, s)
def hea2 (T : Tx) (s : Sg) (h : Int) (c : Nat) : Rp := if isW T c w_warm = true then (if num T (nx T c) 1 9 = -1 then (false, nx T c, s) else hea3 T s h (nx T (nx T c))) else (false, c, s)
def hea1 (T : Tx) (s : Sg) (h : Int) (c : Nat) : Rp := if isW T c w_flue = true then (if num T (nx T c) 0 9 = -1 then (false, nx T c, s) else hea2 T s h (nx T (nx T c))) else (false, c, s)
/-- of H: a house with fewer than six -/
def heaO (T : Tx) (s : Sg) (c : Nat) : Rp := if isW T c w_of = true then (if num T (nx T c) 0 (s 0 - 1) = -1 ∨ 6 ≤ ones (bto s (num T (nx T c) 0 (s 0 - 1)) (s 1).toNat) then (false, nx T c, s) else hea1 T s (num T (nx T c) 0 (s 0 - 1)) (nx T (nx T c))) else (false, c, s)
def heaF (T : Tx) (s : Sg) (b : Nat) : Rp := if s 1 = 12 then (false, b, s) else if kin T (nx T b) = -1 then (false, nx T b, s) else heaO T s (nx T (nx T b))
def setF (T : Tx) (s : Sg) (b : Nat) (hi : Int) (u : Int → Sg) : Rp := if num T (nx T b) 0 hi = -1 then (false, nx T b, s) else (true, nx T (nx T b), u (num T (nx T b) 0 hi))
def plnF (T : Tx) (s : Sg) (b : Nat) : Rp :=
  if isW T b w_house = true then houF T s b else if isW T b w_sees = true then seeF T s b else if isW T b w_hearth = true then heaF T s b
  else if isW T b w_rate = true then setF T s b 20 (fun _ => s) else if isW T b w_fine = true then setF T s b 50 (fun _ => s) else if isW T b w_visit = true then setF T s b 100 (sup s 15)
  else if isW T b w_bed = true then setF T s b 20 (fun _ => s) else if isW T b w_quarter = true then setF T s b 999 (fun _ => s) else (false, b, s)
def plsR (T : Tx) : Nat → Sg → Nat → Rp
  | 0, s, b => (false, b, s)
  | m + 1, s, b => if kd T b = 1 then (if (plnF T s b).1 = true then (if kd T (plnF T s b).2.1 = 0 then (true, (plnF T s b).2.1, (plnF T s b).2.2) else if (tkS T (plnF T s b).2.1 59).1 = true then plsR T m (plnF T s b).2.2 (tkS T (plnF T s b).2.1 59).2 else (false, (tkS T (plnF T s b).2.1 59).2, (plnF T s b).2.2)) else (false, (plnF T s b).2.1, s)) else (false, b, s)
theorem plsR_e (T : Tx) (m : Nat) (s : Sg) (b : Nat) : plsR T (m + 1) s b = if kd T b = 1 then (if (plnF T s b).1 = true then (if kd T (plnF T s b).2.1 = 0 then (true, (plnF T s b).2.1, (plnF T s b).2.2) else if (tkS T (plnF T s b).2.1 59).1 = true then plsR T m (plnF T s b).2.2 (tkS T (plnF T s b).2.1 59).2 else (false, (tkS T (plnF T s b).2.1 59).2, (plnF T s b).2.2)) else (false, (plnF T s b).2.1, s)) else (false, b, s) := rfl
def parF (T : Tx) (s : Sg) : Rp := if kd T (sk T 0) = 0 then (true, sk T 0, s) else plsR T 14 s (sk T 0)
section Par
variable {T : Tx} {s s1 : Sg} {b c d e m n : Nat}
theorem pls_k (h : n = m + 1) (hk : kd T b ≠ 1) : plsR T n s b = (false, b, s) := by
  subst h
  rw [plsR_e T m s b, if_neg hk]
theorem pls_no (h : n = m + 1) (hk : kd T b = 1) (hl : plnF T s b = (false, e, s1)) : plsR T n s b = (false, e, s) := by
  subst h
  rw [plsR_e T m s b, if_pos hk, hl, if_neg (show ¬ ((false, e, s1) : Rp).1 = true from Bool.false_ne_true)]
theorem pls_end (h : n = m + 1) (hk : kd T b = 1) (hl : plnF T s b = (true, c, s1)) (he : kd T c = 0) : plsR T n s b = (true, c, s1) := by
  subst h
  rw [plsR_e T m s b, if_pos hk, hl, if_pos (show ((true, c, s1) : Rp).1 = true from rfl), if_pos (show kd T ((true, c, s1) : Rp).2.1 = 0 from he)]
theorem pls_st (h : n = m + 1) (hk : kd T b = 1) (hl : plnF T s b = (true, c, s1)) (he : kd T c ≠ 0) (hs : tkS T c 59 = (true, d)) : plsR T n s b = plsR T m s1 d := by
  subst h
  rw [plsR_e T m s b, if_pos hk, hl, if_pos (show ((true, c, s1) : Rp).1 = true from rfl), if_neg (show ¬ kd T ((true, c, s1) : Rp).2.1 = 0 from he)]
  show (if (tkS T c 59).1 = true then _ else _) = _
  rw [hs, if_pos (show ((true, d) : Rz).1 = true from rfl)]
theorem pls_sg (h : n = m + 1) (hk : kd T b = 1) (hl : plnF T s b = (true, c, s1)) (he : kd T c ≠ 0) (hs : tkS T c 59 = (false, e)) : plsR T n s b = (false, e, s1) := by
  subst h
  rw [plsR_e T m s b, if_pos hk, hl, if_pos (show ((true, c, s1) : Rp).1 = true from rfl), if_neg (show ¬ kd T ((true, c, s1) : Rp).2.1 = 0 from he)]
  show (if (tkS T c 59).1 = true then _ else _) = _
  rw [hs, if_neg (show ¬ ((false, e) : Rz).1 = true from Bool.false_ne_true)]
end Par
/-! what the counts keep: no house has more than six -/
def PV (s : Sg) : Prop := (0 ≤ s 0 ∧ s 0 ≤ 6) ∧ (0 ≤ s 1 ∧ s 1 ≤ 12) ∧ (∀ h, ones (bto s h (s 1).toNat) ≤ 6) ∧ s 2 ≤ 12
def ones_t : Bool := (List.range 12).all (fun n => (List.range (2 ^ n)).all (fun x => decide (ones (x + 2 ^ n) = ones x + 1)))
theorem ones_tt : ones_t = true := by decide +kernel
theorem ones_s {n x : Nat} (hn : n < 12) (hx : x < 2 ^ n) : ones (x + 2 ^ n) = ones x + 1 := by
  have h := ones_tt
  unfold ones_t at h
  exact of_decide_eq_true (List.all_eq_true.mp (List.all_eq_true.mp h n (List.mem_range.mpr hn)) x (List.mem_range.mpr hx))
theorem ones_0 : ones 0 = 0 := by decide
section Par2
variable {T : Tx} {s s1 : Sg} {b c d e m n : Nat} {v h : Int}
theorem PV.sup9 (P : PV s) {k : Nat} (hk : 15 ≤ k) : PV (sup s k v) := by
  have e0 : sup s k v 0 = s 0 := sup_o s v (by omega)
  have e1 : sup s k v 1 = s 1 := sup_o s v (by omega)
  refine ⟨by rw [e0]; exact P.1, by rw [e1]; exact P.2.1, fun h => ?_, by rw [sup_o s v (show 2 ≠ k by omega)]; exact P.2.2.2⟩
  have h2 := P.2.1
  rw [e1, bto_eq (t := s) _ (fun j hj => sup_o s v (by omega))]
  exact P.2.2.1 h
theorem PV.hup9 (P : PV s) (h6 : s 0 ≠ 6) : PV (hup s v) := by
  have P2 : PV (sup s (16 + (s 0).toNat) v) := P.sup9 (by omega)
  have e1 : hup s v 1 = s 1 := by
    unfold hup
    rw [sup_o _ _ (by decide), sup_o _ _ (by omega)]
  have e0 : hup s v 0 = s 0 + 1 := sup_s _ _ _
  have h0 := P.1
  have h2 := P.2.1
  refine ⟨by rw [e0]; omega, by rw [e1]; exact P.2.1, fun h => ?_, by unfold hup; rw [sup_o _ _ (by decide), sup_o _ _ (by omega)]; exact P.2.2.2⟩
  rw [e1, bto_eq (t := s) _ (fun j hj => by unfold hup; rw [sup_o _ _ (by omega), sup_o _ _ (by omega)])]
  exact P.2.2.1 h
theorem PV.fup9 (P : PV s) (h12 : s 1 ≠ 12) (h6 : ¬ 6 ≤ ones (bto s h (s 1).toNat)) : PV (fup s h) := by
  have h2 := P.2.1
  have e1 : fup s h 1 = s 1 + 1 := sup_s _ _ _
  have e0 : fup s h 0 = s 0 := by
    unfold fup
    rw [sup_o _ _ (by decide), sup_o _ _ (by omega)]
  have ej : ∀ j, j < (s 1).toNat → fup s h (3 + j) = s (3 + j) := fun j hj => by
    unfold fup
    rw [sup_o _ _ (by omega), sup_o _ _ (by omega)]
  have en : fup s h (3 + (s 1).toNat) = h := by
    unfold fup
    rw [sup_o _ _ (by omega), sup_s]
  refine ⟨by rw [e0]; exact P.1, by rw [e1]; omega, fun g => ?_, by unfold fup; rw [sup_o _ _ (by decide), sup_o _ _ (by omega)]; exact P.2.2.2⟩
  rw [e1, show (s 1 + 1).toNat = (s 1).toNat + 1 by omega]
  have eb := bto_eq (s := fup s h) (t := s) (h := g) _ ej
  have hb := bto_lt s g (s 1).toNat
  by_cases hg : h = g
  · subst hg
    rw [bto_s en, eb, ones_s (by omega) hb]
    omega
  · rw [bto_o (by rw [en]; exact hg), eb]
    exact P.2.2.1 g
theorem rp_t {z : Rp} {x : Bool} (h : (x, c, s) = ((true, d, s1) : Rp)) : x = true ∧ c = d ∧ s = s1 := by
  have h1 := Prod.mk.inj h
  have h2 := Prod.mk.inj h1.2
  exact ⟨h1.1, h2.1, h2.2⟩
theorem PV.houT9 (P : PV s) (h6 : s 0 ≠ 6) (hz : houT T s c = (true, d, s1)) : PV s1 := by
  unfold houT at hz
  split at hz
  · split at hz
    · exact absurd (rp_t (z := (true, d, s1)) hz).1 Bool.false_ne_true
    · rw [← (rp_t (z := (true, d, s1)) hz).2.2]; exact P.hup9 h6
  · rw [← (rp_t (z := (true, d, s1)) hz).2.2]; exact P.hup9 h6
theorem PV.houF9 (P : PV s) (hz : houF T s b = (true, d, s1)) : PV s1 := by
  unfold houF at hz
  split at hz
  · exact absurd (rp_t (z := (true, d, s1)) hz).1 Bool.false_ne_true
  · rename_i h6
    split at hz
    · exact absurd (rp_t (z := (true, d, s1)) hz).1 Bool.false_ne_true
    · unfold houW at hz
      split at hz
      · split at hz
        · exact absurd (rp_t (z := (true, d, s1)) hz).1 Bool.false_ne_true
        · unfold houP at hz
          split at hz
          · exact P.houT9 h6 hz
          · exact P.houT9 h6 hz
      · exact absurd (rp_t (z := (true, d, s1)) hz).1 Bool.false_ne_true
theorem PV.hea19 (P : PV s) (h12 : s 1 ≠ 12) (h6 : ¬ 6 ≤ ones (bto s h (s 1).toNat)) (hz : hea1 T s h c = (true, d, s1)) : PV s1 := by
  unfold hea1 at hz
  split at hz
  · split at hz
    · exact absurd (rp_t (z := (true, d, s1)) hz).1 Bool.false_ne_true
    · unfold hea2 at hz
      split at hz
      · split at hz
        · exact absurd (rp_t (z := (true, d, s1)) hz).1 Bool.false_ne_true
        · unfold hea3 at hz
          split at hz
          · split at hz
            · exact absurd (rp_t (z := (true, d, s1)) hz).1 Bool.false_ne_true
            · rw [← (rp_t (z := (true, d, s1)) hz).2.2]; exact P.fup9 h12 h6
          · exact absurd (rp_t (z := (true, d, s1)) hz).1 Bool.false_ne_true
      · exact absurd (rp_t (z := (true, d, s1)) hz).1 Bool.false_ne_true
  · exact absurd (rp_t (z := (true, d, s1)) hz).1 Bool.false_ne_true
theorem PV.heaF9 (P : PV s) (hz : heaF T s b = (true, d, s1)) : PV s1 := by
  unfold heaF at hz
  split at hz
  · exact absurd (rp_t (z := (true, d, s1)) hz).1 Bool.false_ne_true
  · rename_i h12
    split at hz
    · exact absurd (rp_t (z := (true, d, s1)) hz).1 Bool.false_ne_true
    · unfold heaO at hz
      split at hz
      · split at hz
        · exact absurd (rp_t (z := (true, d, s1)) hz).1 Bool.false_ne_true
        · rename_i h6
          exact P.hea19 h12 (fun z => h6 (Or.inr z)) hz
      · exact absurd (rp_t (z := (true, d, s1)) hz).1 Bool.false_ne_true
theorem PV.setF9 (P : PV s) {hi : Int} {u : Int → Sg} (hu : ∀ x, PV (u x)) (hz : setF T s b hi u = (true, d, s1)) : PV s1 := by
  unfold setF at hz
  split at hz
  · exact absurd (rp_t (z := (true, d, s1)) hz).1 Bool.false_ne_true
  · rw [← (rp_t (z := (true, d, s1)) hz).2.2]; exact hu _
theorem PV.seeF9 (P : PV s) (hz : seeF T s b = (true, d, s1)) : PV s1 := by
  unfold seeF at hz
  split at hz
  · exact absurd (rp_t (z := (true, d, s1)) hz).1 Bool.false_ne_true
  · split at hz
    · exact absurd (rp_t (z := (true, d, s1)) hz).1 Bool.false_ne_true
    · rw [← (rp_t (z := (true, d, s1)) hz).2.2]; exact P
theorem PV.pln (P : PV s) (hz : plnF T s b = (true, d, s1)) : PV s1 := by
  unfold plnF at hz
  split at hz
  · exact P.houF9 hz
  · split at hz
    · exact P.seeF9 hz
    · split at hz
      · exact P.heaF9 hz
      · split at hz
        · exact P.setF9 (fun _ => P) hz
        · split at hz
          · exact P.setF9 (fun _ => P) hz
          · split at hz
            · exact P.setF9 (fun _ => P.sup9 (by decide)) hz
            · split at hz
              · exact P.setF9 (fun _ => P) hz
              · split at hz
                · exact P.setF9 (fun _ => P) hz
                · exact absurd (rp_t (z := (true, d, s1)) hz).1 Bool.false_ne_true
end Par2
/-! bits: one more, and how many -/
def sh_t : Bool := (List.range 12).all (fun n => decide (((1 : Int32) <<< ((Int32.ofInt (n : Int)) &&& 31)).toInt = ((2 ^ n : Nat) : Int)))
theorem sh_tt : sh_t = true := by decide +kernel
theorem i_ofn (x : Int32) (h : 0 ≤ x.toInt) : x = Int32.ofInt ((x.toInt.toNat : Nat) : Int) := by
  rw [show ((x.toInt.toNat : Nat) : Int) = x.toInt by omega, Int32.ofInt_toInt]
theorem sh1 {i v : Int32} (h0 : 0 ≤ i.toInt) (h1 : i.toInt < 12) (hv : v = (1 : Int32) <<< (i &&& 31)) : v.toInt = ((2 ^ i.toInt.toNat : Nat) : Int) := by
  have h := sh_tt
  unfold sh_t at h
  have h2 := of_decide_eq_true (List.all_eq_true.mp h i.toInt.toNat (List.mem_range.mpr (by omega)))
  rw [← i_ofn i h0] at h2
  rw [hv]
  exact h2
theorem or_add {b v : Int32} {m n : Nat} (hb : b.toInt = (m : Int)) (hm : m < 2 ^ n) (hv : v.toInt = ((2 ^ n : Nat) : Int)) (hn : n < 12) : (b ||| v).toInt = ((m + 2 ^ n : Nat) : Int) := by
  have p12 : 2 ^ n ≤ 2048 := Nat.pow_le_pow_right (by decide) (show n ≤ 11 by omega)
  have tn : ∀ (x : Int32) (k : Nat), k < 4096 → x.toInt = (k : Int) → x.toBitVec.toNat = k := by
    intro x k hk hx
    have h := i_toNat x
    have hl : x.toBitVec.toNat < 4294967296 := x.toBitVec.isLt
    omega
  have e1 := tn b m (by omega) hb
  have e2 := tn v (2 ^ n) (by omega) hv
  have e3 : (b ||| v).toBitVec.toNat = m + 2 ^ n := by
    show (b.toBitVec ||| v.toBitVec).toNat = _
    rw [BitVec.toNat_or, e1, e2, Nat.or_comm]
    have := Nat.two_pow_add_eq_or_of_lt hm 1
    rw [Nat.mul_one] at this
    rw [← this]
    omega
  have h := i_toNat (b ||| v)
  have hr : (b ||| v).toInt = (b ||| v).toBitVec.toInt := rfl
  rw [hr, BitVec.toInt_eq_toNat_of_lt (by omega), e3]
def bcu (x k : Int32) : Int32 := (x.toUInt32 >>> (k.toUInt32 &&& Int32.toUInt32 31)).toInt32
def bcA (x : Int32) : Int32 := x - (bcu x 1 &&& 1431655765)
def bcB (x : Int32) : Int32 := (x &&& 858993459) + (bcu x 2 &&& 858993459)
def bcC (x : Int32) : Int32 := (x + bcu x 4) &&& 252645135
def bcD (x : Int32) : Int32 := x + bcu x 8
def bcE (x : Int32) : Int32 := x + bcu x 16
def bc (x : Int32) : Int32 := bcE (bcD (bcC (bcB (bcA x)))) &&& 63
def bc_t : Bool := (List.range 4096).all (fun n => decide ((bc (Int32.ofInt (n : Int))).toInt = ((ones n : Nat) : Int)))
theorem bc_tt : bc_t = true := by decide +kernel
theorem bc_ones {x : Int32} (h0 : 0 ≤ x.toInt ∧ x.toInt < 4096) : (bc x).toInt = ((ones x.toInt.toNat : Nat) : Int) := by
  have h := bc_tt
  unfold bc_t at h
  have h2 := of_decide_eq_true (List.all_eq_true.mp h x.toInt.toNat (List.mem_range.mpr (by omega)))
  rw [← i_ofn x h0.1] at h2
  exact h2
theorem bto_12 {s : Sg} {h : Int} {n : Nat} (hn : n ≤ 12) : bto s h n < 4096 := Nat.lt_of_lt_of_le (bto_lt s h n) (Nat.pow_le_pow_right (by decide) hn)
/-! no line changes how many texts there were -/
section Par3
variable {T : Tx} {s s1 : Sg} {b c d : Nat} {v h : Int} {x : Bool}
theorem hup_2 (h0 : 0 ≤ s 0) : hup s v 2 = s 2 := by
  unfold hup
  rw [sup_o _ _ (by decide), sup_o _ _ (by omega)]
theorem fup_2 (h0 : 0 ≤ s 1) : fup s h 2 = s 2 := by
  unfold fup
  rw [sup_o _ _ (by decide), sup_o _ _ (by omega)]
theorem rp_s {c9 : Nat} {s9 : Sg} (h : (x, c9, s9) = ((true, d, s1) : Rp)) (e : s9 2 = s 2) : s1 2 = s 2 := by
  have h2 := (Prod.mk.inj (Prod.mk.inj h).2).2
  rw [← h2]; exact e
theorem pln_2 (P : PV s) (hz : plnF T s b = (true, d, s1)) : s1 2 = s 2 := by
  have h0 := P.1.1
  have h1 := P.2.1.1
  unfold plnF at hz
  split at hz
  · unfold houF houW houP houT at hz
    repeat' split at hz
    all_goals first | exact rp_s hz (hup_2 h0) | exact rp_s hz rfl
  · split at hz
    · unfold seeF at hz
      repeat' split at hz
      all_goals exact rp_s hz rfl
    · split at hz
      · unfold heaF heaO hea1 hea2 hea3 at hz
        repeat' split at hz
        all_goals first | exact rp_s hz (fup_2 h1) | exact rp_s hz rfl
      · unfold setF at hz
        repeat' split at hz
        all_goals first | exact rp_s hz rfl | exact rp_s hz (sup_o _ _ (by decide))
theorem pls_2 : ∀ (m : Nat) (s : Sg) (b : Nat), PV s → plsR T m s b = (true, d, s1) → s1 2 = s 2 ∧ PV s1
  | 0, s, b, P, hz => absurd (rp_t (z := (true, d, s1)) hz).1 Bool.false_ne_true
  | m + 1, s, b, P, hz => by
    rw [plsR_e T m s b] at hz
    by_cases hk : kd T b = 1
    · rw [if_pos hk] at hz
      obtain ⟨⟨x9, c9, s9⟩, e9⟩ : ∃ z, z = plnF T s b := ⟨_, rfl⟩
      rw [← e9] at hz
      by_cases hx : x9 = true
      · subst hx
        rw [if_pos (show ((true, c9, s9) : Rp).1 = true from rfl)] at hz
        have p9 := P.pln e9.symm
        have t9 := pln_2 P e9.symm
        by_cases he : kd T c9 = 0
        · rw [if_pos (show kd T ((true, c9, s9) : Rp).2.1 = 0 from he)] at hz
          have h3 := (rp_t (z := (true, d, s1)) hz).2.2
          have h3 : s9 = s1 := h3
          rw [← h3]
          exact ⟨t9, p9⟩
        · rw [if_neg (show ¬ kd T ((true, c9, s9) : Rp).2.1 = 0 from he)] at hz
          split at hz
          · have h4 := pls_2 m s9 _ p9 hz
            exact ⟨h4.1.trans t9, h4.2⟩
          · exact absurd (rp_t (z := (true, d, s1)) hz).1 Bool.false_ne_true
      · rw [if_neg hx] at hz
        exact absurd (rp_t (z := (true, d, s1)) hz).1 Bool.false_ne_true
    · rw [if_neg hk] at hz
      exact absurd (rp_t (z := (true, d, s1)) hz).1 Bool.false_ne_true
theorem par_2 (P : PV s) (hz : parF T s = (true, d, s1)) : s1 2 = s 2 ∧ PV s1 := by
  unfold parF at hz
  by_cases hk : kd T (sk T 0) = 0
  · rw [if_pos hk] at hz
    have h3 := (rp_t (z := (true, d, s1)) hz).2.2
    rw [← h3]
    exact ⟨rfl, P⟩
  · rw [if_neg hk] at hz
    exact pls_2 14 s _ P hz
theorem PV.texts (P : PV s) (hv : v ≤ 12) : PV (sup s 2 v) := by
  have e0 : sup s 2 v 0 = s 0 := sup_o s v (by decide)
  have e1 : sup s 2 v 1 = s 1 := sup_o s v (by decide)
  refine ⟨by rw [e0]; exact P.1, by rw [e1]; exact P.2.1, fun h => ?_, by rw [sup_s]; exact hv⟩
  rw [e1, bto_eq (t := s) _ (fun j hj => sup_o s v (by omega))]
  exact P.2.2.1 h
end Par3
/-! as the reference reads a number, a line -/
def nmF (T : Tx) (s : Sg) (b : Nat) (hi at9 : Int) : Rp := if num T b 0 hi = -1 then (false, b, s) else (true, nx T b, if at9 = 7 then sup s 15 (num T b 0 hi) else s)
section Par4
variable {T : Tx} {s s1 : Sg} {b c e k : Nat} {hi : Int} {z : Rp}
theorem setF_7 : setF T s b hi (sup s 15) = nmF T s (nx T b) hi 7 := by
  unfold setF nmF
  rw [if_pos (show (7 : Int) = 7 from rfl)]
theorem setF_n {k9 : Int} (hk : k9 ≠ 7) : setF T s b hi (fun _ => s) = nmF T s (nx T b) hi k9 := by
  unfold setF nmF
  rw [if_neg hk]
theorem setF_4 : setF T s b hi (fun _ => s) = nmF T s (nx T b) hi 4 := setF_n (by decide)
theorem setF_5 : setF T s b hi (fun _ => s) = nmF T s (nx T b) hi 5 := setF_n (by decide)
theorem setF_6 : setF T s b hi (fun _ => s) = nmF T s (nx T b) hi 6 := setF_n (by decide)
theorem setF_8 : setF T s b hi (fun _ => s) = nmF T s (nx T b) hi 8 := setF_n (by decide)
theorem PV.nmF9 {at9 : Int} (P : PV s) (hz : nmF T s b hi at9 = (true, c, s1)) : PV s1 := by
  unfold nmF at hz
  split at hz
  · exact absurd (rp_t (z := (true, c, s1)) hz).1 Bool.false_ne_true
  · have h3 := (rp_t (z := (true, c, s1)) hz).2.2
    rw [← h3]
    split
    · exact P.sup9 (by decide)
    · exact P
theorem kin_k (h : kin T b ≠ -1) : kd T b = 1 := by
  apply Classical.byContradiction
  intro hk
  apply h
  unfold kin
  rw [isW_no hk, isW_no hk, isW_no hk, isW_no hk]
  rfl
theorem pln_k (hk : kd T b ≠ 1) : plnF T s b = (false, b, s) := by
  unfold plnF
  rw [isW_no hk, isW_no hk, isW_no hk, isW_no hk, isW_no hk, isW_no hk, isW_no hk, isW_no hk]
  rfl
def plnN (T : Tx) (s : Sg) (n : Int) (b : Nat) : Rp := if n < 14 then plnF T s b else (false, b, s)
theorem plsN_no (h : z = plsR T (14 - k) s b) (hk : k ≤ 14) (hy : plnN T s k b = (false, e, s1)) : z.1 = false ∧ z.2.1 = e := by
  unfold plnN at hy
  by_cases h14 : k = 14
  · subst h14
    rw [if_neg (by omega)] at hy
    have e9 := (Prod.mk.inj (Prod.mk.inj hy).2).1
    rw [h]
    exact ⟨rfl, e9⟩
  · rw [if_pos (by omega)] at hy
    by_cases hk1 : kd T b = 1
    · rw [h, pls_no (m := 14 - (k + 1)) (by omega) hk1 hy]
      exact ⟨rfl, rfl⟩
    · rw [pln_k hk1] at hy
      have e9 := (Prod.mk.inj (Prod.mk.inj hy).2).1
      rw [h, pls_k (m := 14 - (k + 1)) (by omega) hk1]
      exact ⟨rfl, e9⟩
theorem plnN_t (hy : plnN T s k b = (true, c, s1)) : k < 14 ∧ kd T b = 1 ∧ plnF T s b = (true, c, s1) := by
  unfold plnN at hy
  by_cases h14 : (k : Int) < 14
  · rw [if_pos h14] at hy
    refine ⟨by omega, Classical.byContradiction (fun z => ?_), hy⟩
    rw [pln_k z] at hy
    exact absurd (Prod.mk.inj hy).1 Bool.false_ne_true
  · rw [if_neg h14] at hy
    exact absurd (Prod.mk.inj hy).1 Bool.false_ne_true
end Par4
