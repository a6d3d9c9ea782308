/-! the numbers that a text of the parish alone changes, in the reference: now (MV), ahead of each act (MA), at the image (MK), ahead of a trial (TR) -/
def fW (D : DD) (H : Heap) (a k o : Nat) : Nat → Int := fun j => (eI H (fR D H 11 a k) (o + vy j)).toInt
def SV (f : Nat → Int) (s : Sg) : Prop := ∀ k, k < 22 → f k = s k
def MV (D : DD) (H : Heap) (a : Nat) (s : Sg) : Prop := SV (fW D H a 1 0) s
def MA (D : DD) (H : Heap) (a : Nat) (s : Sg) : Prop := ∀ r : Nat, (r : Int) < (fI D H 11 a 7).toInt → SV (fW D H a 5 (354 * r)) s
def MK (D : DD) (H : Heap) (a : Nat) (s : Sg) : Prop := (fI D H 11 a 6).toInt = 1 → SV (fW D H a 2 0) s
def TR (D : DD) (H : Heap) (a : Nat) (s : Sg) : Prop := SV (fW D H a 4 0) s
def MI (D : DD) (H : Heap) (a : Nat) (V K : Sg) : Prop := MV D H a V ∧ MA D H a V ∧ MK D H a K
def MT (D : DD) (H : Heap) (a : Nat) (V K : Sg) : Prop := MI D H a V K ∧ TR D H a V
theorem vy_inj {j k : Nat} (hj : j < 22) (hk : k < 22) (h : vy j = vy k) : j = k := by
  unfold vy at h
  by_cases a1 : j < 3
  · rw [if_pos a1] at h
    by_cases b1 : k < 3
    · rw [if_pos b1] at h; exact h
    · rw [if_neg b1] at h
      split at h
      · omega
      · split at h <;> omega
  · rw [if_neg a1] at h
    by_cases a2 : j < 15
    · rw [if_pos a2] at h
      by_cases b1 : k < 3
      · rw [if_pos b1] at h; omega
      · rw [if_neg b1] at h
        by_cases b2 : k < 15
        · rw [if_pos b2] at h; omega
        · rw [if_neg b2] at h
          split at h <;> omega
    · rw [if_neg a2] at h
      by_cases a3 : j = 15
      · rw [if_pos a3] at h
        by_cases b1 : k < 3
        · rw [if_pos b1] at h; omega
        · rw [if_neg b1] at h
          by_cases b2 : k < 15
          · rw [if_pos b2] at h; omega
          · rw [if_neg b2] at h
            split at h <;> omega
      · rw [if_neg a3] at h
        by_cases b1 : k < 3
        · rw [if_pos b1] at h; omega
        · rw [if_neg b1] at h
          by_cases b2 : k < 15
          · rw [if_pos b2] at h; omega
          · rw [if_neg b2] at h
            split at h <;> omega
section MVs
variable {D : DD} {G : Nat → Nat} {E : List (Nat × Nat)} {H H1 B : Heap} {a : Nat} {V K s : Sg}
theorem fW.of {k o : Nat} (h1 : fR D H1 11 a k = fR D H 11 a k) (h2 : ∀ j, j < 22 → eI H1 (fR D H 11 a k) (o + vy j) = eI H (fR D H 11 a k) (o + vy j)) (h : SV (fW D H a k o) s) : SV (fW D H1 a k o) s := by
  intro j hj
  show (eI H1 (fR D H1 11 a k) (o + vy j)).toInt = s j
  rw [h1, h2 j hj]
  exact h j hj
theorem fW.cell {k o : Nat} (h1 : fR D H1 11 a k = fR D H 11 a k) (h2 : H1[fR D H 11 a k]? = H[fR D H 11 a k]?) (h : SV (fW D H a k o) s) : SV (fW D H1 a k o) s := fW.of h1 (fun j _ => congrArg vI (eV_of h2 _)) h
theorem MV.keep (h : MV D H a s) (hO : Ok D G H) (ga : G a = 30) (K9 : Keep D G E H H1) (h1 : (30, 1) ∉ E) (h2 : (31, 1) ∉ E) : MV D H1 a s := by
  have gw : G (fR D H 11 a 1) = 31 := hO.rol ga rfl (by decide) rfl
  exact fW.of (K9.fR ga rfl (by decide) h1) (fun j hj => by rw [Nat.zero_add]; exact K9.v gw h2 j hj) h
theorem TR.keep (h : TR D H a s) (hO : Ok D G H) (ga : G a = 30) (K9 : Keep D G E H H1) (h1 : (30, 4) ∉ E) (h2 : (34, 0) ∉ E) : TR D H1 a s := by
  have gw : G (fR D H 11 a 4) = 34 := hO.rol ga rfl (by decide) rfl
  exact fW.cell (K9.fR ga rfl (by decide) h1) (K9.c gw rfl h2) h
def noI (E : List (Nat × Nat)) : Bool := decide ((30, 1) ∉ E) && decide ((31, 1) ∉ E) && decide ((30, 5) ∉ E) && decide ((35, 0) ∉ E) && decide ((30, 7) ∉ E) && decide ((30, 2) ∉ E) && decide ((32, 0) ∉ E) && decide ((30, 6) ∉ E)
theorem noI_k (h : noI E = true) : (30, 1) ∉ E ∧ (31, 1) ∉ E ∧ (30, 5) ∉ E ∧ (35, 0) ∉ E ∧ (30, 7) ∉ E ∧ (30, 2) ∉ E ∧ (32, 0) ∉ E ∧ (30, 6) ∉ E := by
  unfold noI at h
  simp only [Bool.and_eq_true, decide_eq_true_eq] at h
  exact ⟨h.1.1.1.1.1.1.1, h.1.1.1.1.1.1.2, h.1.1.1.1.1.2, h.1.1.1.1.2, h.1.1.1.2, h.1.1.2, h.1.2, h.2⟩
theorem MI.keep (h : MI D H a V K) (hO : Ok D G H) (ga : G a = 30) (K9 : Keep D G E H H1) (hE : noI E = true) : MI D H1 a V K := by
  obtain ⟨e1, e2, e3, e4, e5, e6, e7, e8⟩ := noI_k hE
  have g5 : G (fR D H 11 a 5) = 35 := hO.rol ga rfl (by decide) rfl
  have g2 : G (fR D H 11 a 2) = 32 := hO.rol ga rfl (by decide) rfl
  refine ⟨h.1.keep hO ga K9 e1 e2, fun r hr => ?_, fun hi => ?_⟩
  · rw [K9.fI ga rfl (by decide) e5] at hr
    exact fW.cell (K9.fR ga rfl (by decide) e3) (K9.c g5 rfl e4) (h.2.1 r hr)
  · rw [K9.fI ga rfl (by decide) e8] at hi
    exact fW.cell (K9.fR ga rfl (by decide) e6) (K9.c g2 rfl e7) (h.2.2 hi)
theorem MT.keep (h : MT D H a V K) (hO : Ok D G H) (ga : G a = 30) (K9 : Keep D G E H H1) (hE : noI E = true) (h4 : (30, 4) ∉ E := by decide +kernel) (h5 : (34, 0) ∉ E := by decide +kernel) : MT D H1 a V K := ⟨h.1.keep hO ga K9 hE, h.2.keep hO ga K9 h4 h5⟩
/-- a field put, an element stored, as what stays -/
theorem Pt.keep {ci N r b k : Nat} {v : Value} (gb : G b = r) (hr : ro r = some (ci, N)) (h0 : r ≠ 0) (P : Pt D H H1 ci N b k v) : Keep D G [(r, k)] H H1 := by
  refine ⟨by rw [P.2.2.2]; exact Nat.le_refl _, fun q _ hq => P.2.2.1 q (fun z => h0 (by rw [← gb, ← z]; exact hq)), fun q rq hq hq0 => ⟨fun ci' N' h' j hj hjE => ?_, fun h' _ => P.2.2.1 q (fun z => ?_), fun h31 _ k9 _ => congrArg vI (eV_of (P.2.2.1 q (fun z => ?_)) _)⟩⟩
  · by_cases z : q = b
    · subst z
      have : rq = r := hq.symm.trans gb
      subst this
      have h2 := hr.symm.trans h'
      simp only [Option.some.injEq, Prod.mk.injEq] at h2
      obtain ⟨rfl, rfl⟩ := h2
      exact P.2.1 j hj (fun y => hjE (by rw [y]; exact List.mem_singleton.mpr rfl))
    · exact fV_of (P.2.2.1 q z) _ _
  · subst z
    rw [← hq, gb, hr] at h'
    cases h'
  · have z8 : r = 31 := by rw [← gb, ← z, hq, h31]
    rw [z8] at hr
    cases hr
theorem Pa.keep {r b i : Nat} {x : Int32} (gb : G b = r) (hr : ro r = none) (h0 : r ≠ 0) (P : Pa H H1 b i x) (hs : r = 31 → aN H b = 2052 ∧ ∀ k, k < 22 → i ≠ vy k) : Keep D G [(r, 0)] H H1 := by
  refine ⟨by rw [P.2.2.2]; exact Nat.le_refl _, fun q _ hq => P.2.2.1 q (fun z => h0 (by rw [← gb, ← z]; exact hq)), fun q rq hq hq0 => ⟨fun ci' N' h' j hj hjE => fV_of (P.2.2.1 q (fun z => ?_)) _ _, fun h' hE9 => P.2.2.1 q (fun z => ?_), fun h31 _ k9 hk9 => ?_⟩⟩
  · subst z
    rw [← hq, gb, hr] at h'
    cases h'
  · subst z
    exact hE9 (by rw [← hq, gb]; exact List.mem_singleton.mpr rfl)
  · by_cases z : q = b
    · have z8 : r = 31 := by rw [← gb, ← z, hq, h31]
      obtain ⟨h1, h2⟩ := hs z8
      have := vy_lt hk9
      rw [z, P.1 _ (by omega), if_neg (fun y => h2 k9 hk9 y.symm)]
    · exact congrArg vI (eV_of (P.2.2.1 q z) _)
/-- a number of the world that the texts change -/
theorem MV.ast (h : MV D H a s) (hO : Ok D G H) (ga : G a = 30) {w i k : Nat} {x : Int32} (ew : w = fR D H 11 a 1) (P : Pa H H1 w i x) (hk : k < 22) (hi : i = vy k) : MV D H1 a (sup s k x.toInt) := by
  subst ew
  have gw : G (fR D H 11 a 1) = 31 := hO.rol ga rfl (by decide) rfl
  have hn : aN H (fR D H 11 a 1) = 2052 := len_31 hO gw
  have ef : fR D H1 11 a 1 = fR D H 11 a 1 := congrArg vR (fV_of (P.2.2.1 a (ne_role ga gw (by decide))) 11 1)
  intro j hj
  have := vy_lt hj
  show (eI H1 (fR D H1 11 a 1) (0 + vy j)).toInt = sup s k x.toInt j
  rw [ef, P.1 _ (by omega)]
  by_cases z : j = k
  · subst z
    rw [if_pos (by omega), sup_s]
  · rw [if_neg (fun y => z (vy_inj hj hk (by omega))), sup_o _ _ z]
    exact h j hj
theorem MV.asto (h : MV D H a s) (hO : Ok D G H) (ga : G a = 30) {w i : Nat} {x : Int32} (ew : w = fR D H 11 a 1) (P : Pa H H1 w i x) (hno : ∀ k, k < 22 → i ≠ vy k) : MV D H1 a s := by
  subst ew
  have gw : G (fR D H 11 a 1) = 31 := hO.rol ga rfl (by decide) rfl
  have hn : aN H (fR D H 11 a 1) = 2052 := len_31 hO gw
  exact h.keep hO ga (E := [(31, 0)]) (Pa.keep gw rfl (by decide) P (fun _ => ⟨hn, hno⟩)) (by decide) (by decide)
/-! copying rows -/
theorem Cp.e {L : List Loc} {d n : Nat} {fd fs : Nat → Int32} {od os k : Nat} (h : Cp D G B H L d n fd fs od os k) {j : Nat} (hj : j < n) : eI H d j = mix fd fs od os k j := (arr_eI h.1 hj).2
theorem Cp.f {L : List Loc} {d n : Nat} {fd fs : Nat → Int32} {od os k : Nat} (h : Cp D G B H L d n fd fs od os k) (hd : a ≠ d) (j : Nat) : fR D H 11 a j = fR D B 11 a j ∧ fI D H 11 a j = fI D B 11 a j := ⟨congrArg vR (fV_of (h.2.1 a hd) 11 j), congrArg vI (fV_of (h.2.1 a hd) 11 j)⟩
/-- one row of another: the numbers that were there are here -/
theorem Cp.row {L : List Loc} {d n : Nat} {fd fs : Nat → Int32} {od os k : Nat} (h : Cp D G B H L d n fd fs od os k) (hd : a ≠ d) {kd ks o : Nat} (ed : d = fR D B 11 a kd) (hk : 354 ≤ k) (hn : od + k ≤ n) (hs : ∀ j, j < 354 → eI B (fR D B 11 a ks) (o + j) = fs (os + j)) (hv : SV (fW D B a ks o) s) : SV (fW D H a kd od) s := by
  intro j hj
  have hl := vy_lt hj
  show (eI H (fR D H 11 a kd) (od + vy j)).toInt = s j
  rw [(h.f hd kd).1, ← ed, h.e (by omega)]
  unfold mix
  rw [if_pos (by omega), show od + vy j - od = vy j by omega, ← hs _ hl]
  exact hv j hj
/-- the rows beside it are as they were -/
theorem Cp.rest {L : List Loc} {d n : Nat} {fd fs : Nat → Int32} {od os k : Nat} (h : Cp D G B H L d n fd fs od os k) (hd : a ≠ d) {kd o : Nat} (ed : d = fR D B 11 a kd) (hn : o + 354 ≤ n) (ho : o + 354 ≤ od ∨ od + k ≤ o) (hf : ∀ j, j < n → eI B d j = fd j) (hv : SV (fW D B a kd o) s) : SV (fW D H a kd o) s := by
  intro j hj
  have hl := vy_lt hj
  show (eI H (fR D H 11 a kd) (o + vy j)).toInt = s j
  rw [(h.f hd kd).1, ← ed, h.e (by omega)]
  unfold mix
  rw [if_neg (by omega), ← hf _ (by omega), ed]
  exact hv j hj
/-- an array beside it -/
theorem Cp.else {L : List Loc} {d n : Nat} {fd fs : Nat → Int32} {od os k : Nat} (h : Cp D G B H L d n fd fs od os k) (hd : a ≠ d) {kd o : Nat} (ed : fR D B 11 a kd ≠ d) (hv : SV (fW D B a kd o) s) : SV (fW D H a kd o) s := fW.cell (h.f hd kd).1 (h.2.1 _ ed) hv
/-! the reference's own copying -/
theorem mx0 {fd fs : Nat → Int32} {k j : Nat} (h : j < k) : mix fd fs 0 0 k j = fs j := by
  unfold mix
  rw [if_pos (by omega), show 0 + (j - 0) = j by omega]
theorem eKk (k : Nat) {r : Nat} {x y : Int} (ht : ft 30 k = (1, r, r, x, y)) (hO : Ok D G H) (ga : G a = 30) (K9 : Keep D G E H H1) (h1 : (30, k) ∉ E) (h2 : (r, 0) ∉ E) (j : Nat) (hk : k < 18 := by decide) (hr : ro r = none := by rfl) (h0 : r ≠ 0 := by decide) : eI H1 (fR D H1 11 a k) j = eI H (fR D H 11 a k) j := by
  have gb : G (fR D H 11 a k) = r := hO.rol ga rfl hk ht
  rw [K9.fR ga rfl hk h1]
  exact congrArg vI (eV_of (K9.c gb hr h2 h0) j)
theorem cp_st {d d0 : Nat} {F : Nat → Int32} {i i1 x : Int32} (h : ∀ j : Nat, (j : Int) < i.toInt → eI H d0 j = F j) (P : Pa H H1 d i.toInt.toNat x) (ed : d = d0) (h0 : 0 ≤ i.toInt) (hn : i.toInt < aN H d) (hi : i1.toInt = i.toInt + 1) (hx : x = F i.toInt.toNat) : ∀ j : Nat, (j : Int) < i1.toInt → eI H1 d0 j = F j := by
  intro j hj
  subst ed
  rw [P.1 j (by omega)]
  by_cases z : j = i.toInt.toNat
  · rw [if_pos z, z]; exact hx
  · rw [if_neg z]; exact h j (by omega)
/-- the same with a row's begin o -/
theorem cp_so {d d0 o m : Nat} {F : Nat → Int32} {i i1 x : Int32} (h : ∀ j : Nat, (j : Int) < i.toInt → eI H d0 (o + j) = F j) (P : Pa H H1 d m x) (em : m = o + i.toInt.toNat) (ed : d = d0) (h0 : 0 ≤ i.toInt) (hn : m < aN H d) (hi : i1.toInt = i.toInt + 1) (hx : x = F i.toInt.toNat) : ∀ j : Nat, (j : Int) < i1.toInt → eI H1 d0 (o + j) = F j := by
  intro j hj
  subst ed
  rw [P.1 _ (by omega)]
  by_cases z : j = i.toInt.toNat
  · rw [if_pos (by omega), z]; exact hx
  · rw [if_neg (by omega)]; exact h j (by omega)
/-- rows that move down by one -/
theorem cp_sh {d d0 : Nat} {F : Nat → Int32} {i i1 x : Int32} (h : ∀ j : Nat, j < 4248 → eI H d0 j = if (j : Int) < i.toInt then F (j + 354) else F j) (P : Pa H H1 d i.toInt.toNat x) (ed : d = d0) (h0 : 0 ≤ i.toInt) (h1 : i.toInt < 3894) (hn : aN H d = 4248) (hi : i1.toInt = i.toInt + 1) (hx : x = eI H d (i.toInt.toNat + 354)) : ∀ j : Nat, j < 4248 → eI H1 d0 j = if (j : Int) < i1.toInt then F (j + 354) else F j := by
  intro j hj
  subst ed
  rw [P.1 j (by omega)]
  by_cases z : j = i.toInt.toNat
  · rw [if_pos z, if_pos (by omega), hx, h _ (by omega), if_neg (by omega), z]
  · rw [if_neg z, h j hj]
    by_cases c : (j : Int) < i.toInt
    · rw [if_pos c, if_pos (by omega)]
    · rw [if_neg c, if_neg (by omega)]
theorem fW.pa {k o i : Nat} {x : Int32} (h : SV (fW D H a k o) s) (ef : fR D H1 11 a k = fR D H 11 a k) (P : Pa H H1 (fR D H 11 a k) i x) (hn : o + 354 ≤ aN H (fR D H 11 a k)) (hi : o + 354 ≤ i) : SV (fW D H1 a k o) s :=
  fW.of ef (fun j hj => by have := vy_lt hj; rw [P.1 _ (by omega), if_neg (by omega)]) h
theorem MT.keeps (h : MI D H a V K) (hO : Ok D G H) (ga : G a = 30) (K9 : Keep D G E H H1) (hc : ∀ j : Nat, j < 354 → eI H1 (fR D H 11 a 4) j = eI H (fR D H 11 a 1) j) (hE : noI E = true := by decide +kernel) (h4 : (30, 4) ∉ E := by decide +kernel) : MT D H1 a V K := by
  refine ⟨h.keep hO ga K9 hE, fun k hk => ?_⟩
  have := vy_lt hk
  show (eI H1 (fR D H1 11 a 4) (0 + vy k)).toInt = V k
  rw [K9.fR ga rfl (by decide) h4, Nat.zero_add, hc _ this]
  have := h.1 k hk
  show (eI H (fR D H 11 a 1) (vy k)).toInt = V k
  rw [← Nat.zero_add (vy k)]
  exact this
def noU (E : List (Nat × Nat)) : Bool := decide ((30, 1) ∉ E) && decide ((30, 5) ∉ E) && decide ((35, 0) ∉ E) && decide ((30, 2) ∉ E) && decide ((32, 0) ∉ E) && decide ((30, 6) ∉ E)
theorem noU_k (h : noU E = true) : (30, 1) ∉ E ∧ (30, 5) ∉ E ∧ (35, 0) ∉ E ∧ (30, 2) ∉ E ∧ (32, 0) ∉ E ∧ (30, 6) ∉ E := by
  unfold noU at h
  simp only [Bool.and_eq_true, decide_eq_true_eq] at h
  exact ⟨h.1.1.1.1.1, h.1.1.1.1.2, h.1.1.1.2, h.1.1.2, h.1.2, h.2⟩
/-- the world's numbers are written anew, no more rows are remembered than before -/
theorem MI.world {V1 : Sg} (h : MI D H a V K) (hO : Ok D G H) (ga : G a = 30) (K9 : Keep D G E H H1) (hE : noU E = true) (hA : ∀ r : Nat, (r : Int) < (fI D H1 11 a 7).toInt → (r : Int) < (fI D H 11 a 7).toInt ∧ V1 = V) (hc : ∀ k, k < 22 → (eI H1 (fR D H 11 a 1) (vy k)).toInt = V1 k) : MI D H1 a V1 K := by
  obtain ⟨e1, e2, e3, e4, e5, e6⟩ := noU_k hE
  have g5 : G (fR D H 11 a 5) = 35 := hO.rol ga rfl (by decide) rfl
  have g2 : G (fR D H 11 a 2) = 32 := hO.rol ga rfl (by decide) rfl
  refine ⟨fun k hk => ?_, fun r hr => ?_, fun hi => ?_⟩
  · show (eI H1 (fR D H1 11 a 1) (0 + vy k)).toInt = V1 k
    rw [K9.fR ga rfl (by decide) e1, Nat.zero_add]
    exact hc k hk
  · obtain ⟨h1, h2⟩ := hA r hr
    rw [h2]
    exact fW.cell (K9.fR ga rfl (by decide) e2) (K9.c g5 rfl e3) (h.2.1 r h1)
  · rw [K9.fI ga rfl (by decide) e6] at hi
    exact fW.cell (K9.fR ga rfl (by decide) e4) (K9.c g2 rfl e5) (h.2.2 hi)
theorem MT.back (h : MT D H a V K) (hO : Ok D G H) (ga : G a = 30) (K9 : Keep D G E H H1) (hc : ∀ j : Nat, j < 354 → eI H1 (fR D H 11 a 1) j = eI H (fR D H 11 a 4) j) (hE : noU E = true := by decide +kernel) (h7 : (30, 7) ∉ E := by decide +kernel) (h4 : (30, 4) ∉ E := by decide +kernel) (h5 : (34, 0) ∉ E := by decide +kernel) : MT D H1 a V K := by
  refine ⟨h.1.world hO ga K9 hE (fun r hr => ⟨by rw [← K9.fI ga rfl (by decide) h7]; exact hr, rfl⟩) (fun k hk => ?_), h.2.keep hO ga K9 h4 h5⟩
  rw [hc _ (vy_lt hk), ← Nat.zero_add (vy k)]
  exact h.2 k hk
theorem MI.undo (h : MI D H a V K) (hO : Ok D G H) (ga : G a = 30) (K9 : Keep D G E H H1) (hr : (fI D H1 11 a 7).toInt = (fI D H 11 a 7).toInt - 1) (h0 : 1 ≤ (fI D H 11 a 7).toInt) (hc : ∀ j : Nat, j < 354 → eI H1 (fR D H 11 a 1) j = eI H (fR D H 11 a 5) (354 * ((fI D H 11 a 7).toInt.toNat - 1) + j)) (hE : noU E = true := by decide +kernel) : MI D H1 a V K :=
  h.world hO ga K9 hE (fun r hr9 => ⟨by omega, rfl⟩) (fun k hk => by
    rw [hc _ (vy_lt hk)]
    exact h.2.1 ((fI D H 11 a 7).toInt.toNat - 1) (by omega) k hk)
/-- a row more is remembered: how the world is -/
theorem MI.rem (h : MI D H a V K) (hO : Ok D G H) (ga : G a = 30) (K9 : Keep D G E H H1) (hr1 : 1 ≤ (fI D H1 11 a 7).toInt) (hrows : ∀ r : Nat, (r : Int) + 1 < (fI D H1 11 a 7).toInt → SV (fW D H1 a 5 (354 * r)) V) (hc : ∀ j : Nat, j < 354 → eI H1 (fR D H 11 a 5) (354 * ((fI D H1 11 a 7).toInt.toNat - 1) + j) = eI H (fR D H 11 a 1) j)
    (e1 : (30, 1) ∉ E := by decide +kernel) (e2 : (31, 1) ∉ E := by decide +kernel) (e3 : (30, 5) ∉ E := by decide +kernel) (e4 : (30, 2) ∉ E := by decide +kernel) (e5 : (32, 0) ∉ E := by decide +kernel) (e6 : (30, 6) ∉ E := by decide +kernel) : MI D H1 a V K := by
  have g2 : G (fR D H 11 a 2) = 32 := hO.rol ga rfl (by decide) rfl
  refine ⟨h.1.keep hO ga K9 e1 e2, fun r hr => ?_, fun hi => ?_⟩
  · by_cases z : (r : Int) + 1 < (fI D H1 11 a 7).toInt
    · exact hrows r z
    · have er : r = (fI D H1 11 a 7).toInt.toNat - 1 := by omega
      intro k hk
      show (eI H1 (fR D H1 11 a 5) (354 * r + vy k)).toInt = V k
      rw [K9.fR ga rfl (by decide) e3, er, hc _ (vy_lt hk), ← Nat.zero_add (vy k)]
      exact h.1 k hk
  · rw [K9.fI ga rfl (by decide) e6] at hi
    exact fW.cell (K9.fR ga rfl (by decide) e4) (K9.c g2 rfl e5) (h.2.2 hi)
theorem MA.shift (h : MA D H a s) (e7 : (fI D H 11 a 7).toInt = 12) (ef : fR D H1 11 a 5 = fR D H 11 a 5) {x : Int} (hx : 3894 ≤ x) (hsh : ∀ j : Nat, j < 4248 → eI H1 (fR D H 11 a 5) j = if (j : Int) < x then eI H (fR D H 11 a 5) (j + 354) else eI H (fR D H 11 a 5) j) {r : Nat} (hr : r < 11) : SV (fW D H1 a 5 (354 * r)) s := by
  intro k hk
  have := vy_lt hk
  show (eI H1 (fR D H1 11 a 5) (354 * r + vy k)).toInt = s k
  rw [ef, hsh _ (by omega), if_pos (by omega), show 354 * r + vy k + 354 = 354 * (r + 1) + vy k by omega]
  exact h (r + 1) (by omega) k hk
/-- the image is how the world is -/
def MJ (D : DD) (H : Heap) (a : Nat) (V K : Sg) : Prop := MI D H a V V ∧ SV K K
theorem MI.img (h : MI D H a V K) (hO : Ok D G H) (ga : G a = 30) (K9 : Keep D G E H H1) (hc : ∀ j : Nat, j < 354 → eI H1 (fR D H 11 a 2) j = eI H (fR D H 11 a 1) j)
    (e1 : (30, 1) ∉ E := by decide +kernel) (e2 : (31, 1) ∉ E := by decide +kernel) (e3 : (30, 5) ∉ E := by decide +kernel) (e4 : (35, 0) ∉ E := by decide +kernel) (e5 : (30, 7) ∉ E := by decide +kernel) (e6 : (30, 2) ∉ E := by decide +kernel) : MJ D H1 a V K := by
  have g5 : G (fR D H 11 a 5) = 35 := hO.rol ga rfl (by decide) rfl
  refine ⟨⟨h.1.keep hO ga K9 e1 e2, fun r hr => ?_, fun _ k hk => ?_⟩, fun _ _ => rfl⟩
  · rw [K9.fI ga rfl (by decide) e5] at hr
    exact fW.cell (K9.fR ga rfl (by decide) e3) (K9.c g5 rfl e4) (h.2.1 r hr)
  · show (eI H1 (fR D H1 11 a 2) (0 + vy k)).toInt = V k
    rw [K9.fR ga rfl (by decide) e6, Nat.zero_add, hc _ (vy_lt hk), ← Nat.zero_add (vy k)]
    exact h.1 k hk
/-- back to the image, if there is one -/
def MB (D : DD) (H : Heap) (a : Nat) (V K : Sg) : Prop := ((fI D H 11 a 6).toInt = 1 → MI D H a K K) ∧ ((fI D H 11 a 6).toInt = 0 → MI D H a V K)
theorem MI.img0 (h : MI D H a V K) (h0 : (fI D H 11 a 6).toInt = 0) : MB D H a V K := ⟨fun z => absurd z (by omega), fun _ => h⟩
theorem MI.toimg (h : MI D H a V K) (hO : Ok D G H) (ga : G a = 30) (K9 : Keep D G E H H1) (h1 : (fI D H 11 a 6).toInt = 1) (h7 : (fI D H1 11 a 7).toInt = 0) (hc : ∀ j : Nat, j < 354 → eI H1 (fR D H 11 a 1) j = eI H (fR D H 11 a 2) j) (hE : noU E = true := by decide +kernel) : MB D H1 a V K := by
  have e6 := (noU_k hE).2.2.2.2.2
  have e : (fI D H1 11 a 6).toInt = 1 := by rw [K9.fI ga rfl (by decide) e6]; exact h1
  refine ⟨fun _ => ?_, fun z => absurd z (by omega)⟩
  have hk := h.world (V1 := K) hO ga K9 hE (fun r hr => absurd hr (by omega)) (fun k hk => by
    rw [hc _ (vy_lt hk), ← Nat.zero_add (vy k)]
    exact h.2.2 h1 k hk)
  exact hk
/-! what a reader of the reference answers, and what it makes of the world -/
def RRP (D : DD) (H : Heap) (a : Nat) (T : Tx) (z : Rp) (r : Int32) : Prop := (∃ c s1, z = (true, c, s1) ∧ r.toInt = 1 ∧ RB D H a T c ∧ MV D H a s1 ∧ PV s1) ∨ ∃ e s1, z = (false, e, s1) ∧ r.toInt = 0 ∧ (fI D H 11 a 12).toInt = ((e : Nat) : Int)
theorem RRP.ok {T : Tx} {z : Rp} {r : Int32} {c : Nat} {s1 : Sg} (h : z = (true, c, s1)) (hr : r.toInt = 1) (ht : RB D H a T c) (hd : MV D H a s1) (hp : z = (true, c, s1) → PV s1) : RRP D H a T z r := Or.inl ⟨c, s1, h, hr, ht, hd, hp h⟩
theorem RRP.no {T : Tx} {z : Rp} {r : Int32} {e : Nat} {s1 : Sg} (h : z = (false, e, s1)) (hr : r.toInt = 0) (hw : (fI D H 11 a 12).toInt = ((e : Nat) : Int)) : RRP D H a T z r := Or.inr ⟨e, s1, h, hr, hw⟩
theorem vy_w {h : Nat} : vy (16 + h) = 16 + 5 * h := by
  unfold vy
  rw [if_neg (by omega), if_neg (by omega), if_neg (by omega)]
  omega
theorem vy_h {j : Nat} (hj : j < 12) : vy (3 + j) = 42 + 6 * j := by
  unfold vy
  rw [if_neg (by omega), if_pos (by omega)]
  omega
theorem MV.num (h : MV D H a s) (hO : Ok D G H) (ga : G a = 30) {w i : Nat} {x : Int32} {at9 v : Int} (ew : w = fR D H 11 a 1) (P : Pa H H1 w i x) (hi : (i : Int) = at9) (h4 : 4 ≤ at9 ∧ at9 ≤ 8) (hx : x.toInt = v) : MV D H1 a (if at9 = 7 then sup s 15 v else s) := by
  by_cases h7 : at9 = 7
  · rw [if_pos h7, ← hx]
    exact h.ast hO ga ew P (k := 15) (by decide) (by show i = 7; omega)
  · rw [if_neg h7]
    exact h.asto hO ga ew P (vy_no (by omega) (by omega) (by omega) (by omega) (fun h9 hh9 => by omega) (fun j9 hj9 => by omega))
theorem mv_0 (h : MV D H a s) : (eI H (fR D H 11 a 1) 0).toInt = s 0 := h 0 (by decide)
theorem mv_1 (h : MV D H a s) : (eI H (fR D H 11 a 1) 1).toInt = s 1 := h 1 (by decide)
theorem mv_2 (h : MV D H a s) : (eI H (fR D H 11 a 1) 2).toInt = s 2 := h 2 (by decide)
theorem mv_h (h : MV D H a s) {j : Nat} (hj : j < 12) : (eI H (fR D H 11 a 1) (42 + 6 * j)).toInt = s (3 + j) := by
  have h9 := h (3 + j) (by omega)
  have h9 : (eI H (fR D H 11 a 1) (0 + vy (3 + j))).toInt = s (3 + j) := h9
  rw [vy_h hj, Nat.zero_add] at h9
  exact h9
/-- ahead of a text the world is kept in before -/
def MF (D : DD) (H : Heap) (a : Nat) (s : Sg) : Prop := SV (fW D H a 3 0) s
theorem MF.keep (h : MF D H a s) (hO : Ok D G H) (ga : G a = 30) (K9 : Keep D G E H H1) (h1 : (30, 3) ∉ E := by decide +kernel) (h2 : (33, 0) ∉ E := by decide +kernel) : MF D H1 a s := by
  have gw : G (fR D H 11 a 3) = 33 := hO.rol ga rfl (by decide) rfl
  exact fW.cell (K9.fR ga rfl (by decide) h1) (K9.c gw rfl h2) h
theorem MF.of (h : MI D B a V K) (hc : ∀ j : Nat, j < 354 → eI H (fR D B 11 a 3) j = eI B (fR D B 11 a 1) j) (ef : fR D H 11 a 3 = fR D B 11 a 3) : MF D H a V := fun k hk => by
  show (eI H (fR D H 11 a 3) (0 + vy k)).toInt = V k
  rw [ef, Nat.zero_add, hc _ (vy_lt hk), ← Nat.zero_add (vy k)]
  exact h.1 k hk
/-- a copied array, as what stays -/
theorem Cp.keepn {L : List Loc} {d n r : Nat} {fd fs : Nat → Int32} {od os k : Nat} (h : Cp D G B H L d n fd fs od os k) (hd : G d = r) (hr : ro r = none) (h0 : r ≠ 0) (h31 : r ≠ 31) : Keep D G [(r, 0)] B H := by
  obtain ⟨g1, g2, g3, g4⟩ := h
  refine ⟨by rw [g3]; exact Nat.le_refl _, fun q _ hq => g2 q (fun z => by rw [z, hd] at hq; exact h0 hq), fun q rq hq hq0 => ⟨fun ci N hN j hj hjE => fV_of (g2 q (fun z => ?_)) _ _, fun hn9 hE9 => g2 q (fun z => ?_), fun z8 _ k9 _ => congrArg vI (eV_of (g2 q (fun z => h31 (by rw [← hd, ← z, hq, z8]))) _)⟩⟩
  · subst z
    rw [← hq, hd, hr] at hN
    cases hN
  · subst z
    exact hE9 (by rw [← hq, hd]; exact List.mem_singleton.mpr rfl)
theorem Cp.keepw {L : List Loc} {d n r : Nat} {fd fs : Nat → Int32} {od os k : Nat} (h : Cp D G B H L d n fd fs od os k) (hd : G d = r) (hr : ro r = none) (h0 : r ≠ 0) : Keep D G [(r, 0), (31, 1)] B H := by
  obtain ⟨g1, g2, g3, g4⟩ := h
  refine ⟨by rw [g3]; exact Nat.le_refl _, fun q _ hq => g2 q (fun z => by rw [z, hd] at hq; exact h0 hq), fun q rq hq hq0 => ⟨fun ci N hN j hj hjE => fV_of (g2 q (fun z => ?_)) _ _, fun hn9 hE9 => g2 q (fun z => ?_), fun z8 hE9 _ _ => absurd (List.mem_cons_of_mem _ (List.mem_singleton.mpr rfl)) hE9⟩⟩
  · subst z
    rw [← hq, hd, hr] at hN
    cases hN
  · subst z
    exact hE9 (by rw [← hq, hd]; exact List.mem_cons_self)
/-- what is remembered, and the image -/
def MR (D : DD) (H : Heap) (a : Nat) (V K : Sg) : Prop := MA D H a V ∧ MK D H a K
theorem MR.keep (h : MR D H a V K) (hO : Ok D G H) (ga : G a = 30) (K9 : Keep D G E H H1) (e3 : (30, 5) ∉ E := by decide +kernel) (e4 : (35, 0) ∉ E := by decide +kernel) (e5 : (30, 7) ∉ E := by decide +kernel) (e6 : (30, 2) ∉ E := by decide +kernel) (e7 : (32, 0) ∉ E := by decide +kernel) (e8 : (30, 6) ∉ E := by decide +kernel) : MR D H1 a V K := by
  have g5 : G (fR D H 11 a 5) = 35 := hO.rol ga rfl (by decide) rfl
  have g2 : G (fR D H 11 a 2) = 32 := hO.rol ga rfl (by decide) rfl
  refine ⟨fun r hr => ?_, fun hi => ?_⟩
  · rw [K9.fI ga rfl (by decide) e5] at hr
    exact fW.cell (K9.fR ga rfl (by decide) e3) (K9.c g5 rfl e4) (h.1 r hr)
  · rw [K9.fI ga rfl (by decide) e8] at hi
    exact fW.cell (K9.fR ga rfl (by decide) e6) (K9.c g2 rfl e7) (h.2 hi)
theorem MR.ast (h : MR D H a V K) (hO : Ok D G H) (ga : G a = 30) {w i : Nat} {x : Int32} (ew : w = fR D H 11 a 1) (P : Pa H H1 w i x) : MR D H1 a V K := by
  subst ew
  have g1 : G (fR D H 11 a 1) = 31 := hO.rol ga rfl (by decide) rfl
  have g5 : G (fR D H 11 a 5) = 35 := hO.rol ga rfl (by decide) rfl
  have g2 : G (fR D H 11 a 2) = 32 := hO.rol ga rfl (by decide) rfl
  have ca := P.2.2.1 a (ne_role ga g1 (by decide))
  refine ⟨fun r hr => ?_, fun hi => ?_⟩
  · rw [show fI D H1 11 a 7 = fI D H 11 a 7 from congrArg vI (fV_of ca 11 7)] at hr
    exact fW.cell (congrArg vR (fV_of ca 11 5)) (P.2.2.1 _ (ne_role g5 g1 (by decide))) (h.1 r hr)
  · rw [show fI D H1 11 a 6 = fI D H 11 a 6 from congrArg vI (fV_of ca 11 6)] at hi
    exact fW.cell (congrArg vR (fV_of ca 11 2)) (P.2.2.1 _ (ne_role g2 g1 (by decide))) (h.2 hi)
/-- nothing is remembered any more -/
theorem MR.none {V1 : Sg} (h : MR D H a V K) (hO : Ok D G H) (ga : G a = 30) {v : Int32} (P : Pt D H H1 11 18 a 7 (.int v)) (hv : v.toInt = 0) : MR D H1 a V1 K := by
  have g2 : G (fR D H 11 a 2) = 32 := hO.rol ga rfl (by decide) rfl
  refine ⟨fun r hr => ?_, fun hi => ?_⟩
  · rw [Pt.i P, hv] at hr
    exact absurd hr (by omega)
  · rw [Pt.o P (by decide) (by decide)] at hi
    exact fW.cell (Pt.or P (by decide) (by decide)) (P.2.2.1 _ (ne_role g2 ga (by decide))) (h.2 hi)
/-- back from before -/
theorem MF.back (h : MF D B a s) (hc : ∀ j : Nat, j < 354 → eI H (fR D B 11 a 1) j = eI B (fR D B 11 a 3) j) (ef : fR D H 11 a 1 = fR D B 11 a 1) : MV D H a s := fun k hk => by
  show (eI H (fR D H 11 a 1) (0 + vy k)).toInt = s k
  rw [ef, Nat.zero_add, hc _ (vy_lt hk), ← Nat.zero_add (vy k)]
  exact h k hk
end MVs
