/-! the numbers that a text of the parish alone changes, in the class: of a Parish p -/
def hsA (D : DD) (H : Heap) (p m : Nat) : Nat := eR H (fR D H 5 p 1) m
def hoA (D : DD) (H : Heap) (p m : Nat) : Nat := eR H (fR D H 5 p 0) m
def pv (D : DD) (H : Heap) (p k : Nat) : Int := if k = 0 then (fI D H 5 p 3).toInt else if k = 1 then (fI D H 5 p 4).toInt else if k = 2 then (fI D H 5 p 5).toInt else if k < 15 then (fI D H 1 (hsA D H p (k - 3)) 0).toInt else if k = 15 then (fI D H 5 p 8).toInt else (fI D H 2 (hoA D H p (k - 16)) 4).toInt
/-- the hearths and houses of one are its own; those of two are apart -/
def DS (D : DD) (H : Heap) (p : Nat) : Prop := (∀ m n, m < 12 → n < 12 → hsA D H p m = hsA D H p n → m = n) ∧ ∀ m n, m < 6 → n < 6 → hoA D H p m = hoA D H p n → m = n
def DP (D : DD) (H : Heap) (p q : Nat) : Prop := p ≠ q ∧ (∀ m n, m < 12 → n < 12 → hsA D H q m ≠ hsA D H p n) ∧ ∀ m n, m < 6 → n < 6 → hoA D H q m ≠ hoA D H p n
/-- what p.become(q) leaves -/
def BC (D : DD) (G : Nat → Nat) (H H1 : Heap) (p q : Nat) : Prop := (DS D H p → DP D H p q → ∀ k, k < 22 → pv D H1 p k = pv D H q k) ∧ ∀ o, (G o = 4 ∨ G o = 23) → DP D H p o → ∀ k, k < 22 → pv D H1 o k = pv D H o k
section CVs
variable {D : DD} {G : Nat → Nat} {E : List (Nat × Nat)} {H H0 H1 : Heap} {p q x a0 a1 : Nat} {V K s : Sg}
theorem pv_eq (h3 : fI D H1 5 p 3 = fI D H 5 q 3) (h4 : fI D H1 5 p 4 = fI D H 5 q 4) (h5 : fI D H1 5 p 5 = fI D H 5 q 5) (h8 : fI D H1 5 p 8 = fI D H 5 q 8) (hh : ∀ m, m < 12 → fI D H1 1 (hsA D H1 p m) 0 = fI D H 1 (hsA D H q m) 0) (hw : ∀ m, m < 6 → fI D H1 2 (hoA D H1 p m) 4 = fI D H 2 (hoA D H q m) 4) {k : Nat} (hk : k < 22) : pv D H1 p k = pv D H q k := by
  unfold pv
  by_cases c0 : k = 0
  · rw [if_pos c0, if_pos c0, h3]
  rw [if_neg c0, if_neg c0]
  by_cases c1 : k = 1
  · rw [if_pos c1, if_pos c1, h4]
  rw [if_neg c1, if_neg c1]
  by_cases c2 : k = 2
  · rw [if_pos c2, if_pos c2, h5]
  rw [if_neg c2, if_neg c2]
  by_cases c3 : k < 15
  · rw [if_pos c3, if_pos c3, hh _ (by omega)]
  rw [if_neg c3, if_neg c3]
  by_cases c4 : k = 15
  · rw [if_pos c4, if_pos c4, h8]
  rw [if_neg c4, if_neg c4, hw _ (by omega)]
/-- what no step but the parish's own writes -/
def noD (E : List (Nat × Nat)) : Bool := decide ((4, 0) ∉ E) && decide ((4, 1) ∉ E) && decide ((23, 0) ∉ E) && decide ((23, 1) ∉ E) && decide ((5, 0) ∉ E) && decide ((6, 0) ∉ E) && decide ((24, 0) ∉ E)
theorem noD_k (h : noD E = true) : (4, 0) ∉ E ∧ (4, 1) ∉ E ∧ (23, 0) ∉ E ∧ (23, 1) ∉ E ∧ (5, 0) ∉ E ∧ (6, 0) ∉ E ∧ (24, 0) ∉ E := by
  unfold noD at h
  simp only [Bool.and_eq_true, decide_eq_true_eq] at h
  exact ⟨h.1.1.1.1.1.1, h.1.1.1.1.1.2, h.1.1.1.1.2, h.1.1.1.2, h.1.1.2, h.1.2, h.2⟩
theorem hs_keep (hO : Ok D G H) (gp : G p = 4 ∨ G p = 23) (K9 : Keep D G E H H1) (hE : noD E = true) (m : Nat) : hsA D H1 p m = hsA D H p m := by
  obtain ⟨e1, e2, e3, e4, e5, e6, e7⟩ := noD_k hE
  unfold hsA
  rcases gp with gp | gp
  · rw [K9.fR gp rfl (by decide) e2]
    exact congrArg vR (eV_of (K9.c (hO.rol gp rfl (by decide) rfl) rfl e6) m)
  · rw [K9.fR gp rfl (by decide) e4]
    exact congrArg vR (eV_of (K9.c (hO.rol gp rfl (by decide) rfl) rfl e7) m)
theorem ho_keep (hO : Ok D G H) (gp : G p = 4 ∨ G p = 23) (K9 : Keep D G E H H1) (hE : noD E = true) (m : Nat) : hoA D H1 p m = hoA D H p m := by
  obtain ⟨e1, e2, e3, e4, e5, e6, e7⟩ := noD_k hE
  unfold hoA
  rcases gp with gp | gp
  · rw [K9.fR gp rfl (by decide) e1]
    exact congrArg vR (eV_of (K9.c (hO.rol gp rfl (by decide) rfl) rfl e5) m)
  · rw [K9.fR gp rfl (by decide) e3]
    exact congrArg vR (eV_of (K9.c (hO.rol gp rfl (by decide) rfl) rfl e5) m)
theorem hs_role (hO : Ok D G H) (gp : G p = 4 ∨ G p = 23) {m : Nat} (hm : m < 12) : G (hsA D H p m) = 8 ∨ G (hsA D H p m) = 25 := by
  rcases gp with gp | gp
  · exact Or.inl (hO.role (r := 6) (hO.rol gp rfl (by decide) rfl) rfl hm)
  · exact Or.inr (hO.role (r := 24) (hO.rol gp rfl (by decide) rfl) rfl hm)
theorem hs_25 (hO : Ok D G H) (gp : G p = 23) {m : Nat} (hm : m < 12) : G (hsA D H p m) = 25 := hO.role (r := 24) (hO.rol (k := 1) gp rfl (by decide) rfl) rfl hm
theorem ho_role (hO : Ok D G H) (gp : G p = 4 ∨ G p = 23) {m : Nat} (hm : m < 6) : G (hoA D H p m) = 7 := by
  rcases gp with gp | gp
  · exact hO.role (r := 5) (hO.rol gp rfl (by decide) rfl) rfl hm
  · exact hO.role (r := 5) (hO.rol gp rfl (by decide) rfl) rfl hm
theorem DS.keep (h : DS D H p) (hO : Ok D G H) (gp : G p = 4 ∨ G p = 23) (K9 : Keep D G E H H1) (hE : noD E = true) : DS D H1 p := by
  refine ⟨fun m n hm hn e => ?_, fun m n hm hn e => ?_⟩
  · rw [hs_keep hO gp K9 hE, hs_keep hO gp K9 hE] at e
    exact h.1 m n hm hn e
  · rw [ho_keep hO gp K9 hE, ho_keep hO gp K9 hE] at e
    exact h.2 m n hm hn e
theorem DP.keep (h : DP D H p q) (hO : Ok D G H) (gp : G p = 4 ∨ G p = 23) (gq : G q = 4 ∨ G q = 23) (K9 : Keep D G E H H1) (hE : noD E = true) : DP D H1 p q := by
  refine ⟨h.1, fun m n hm hn => ?_, fun m n hm hn => ?_⟩
  · rw [hs_keep hO gp K9 hE, hs_keep hO gq K9 hE]
    exact h.2.1 m n hm hn
  · rw [ho_keep hO gp K9 hE, ho_keep hO gq K9 hE]
    exact h.2.2 m n hm hn
def noP (E : List (Nat × Nat)) : Bool := noD E && decide ((4, 3) ∉ E) && decide ((4, 4) ∉ E) && decide ((4, 5) ∉ E) && decide ((4, 8) ∉ E) && decide ((8, 0) ∉ E) && decide ((7, 4) ∉ E)
theorem noP_k (h : noP E = true) : noD E = true ∧ (4, 3) ∉ E ∧ (4, 4) ∉ E ∧ (4, 5) ∉ E ∧ (4, 8) ∉ E ∧ (8, 0) ∉ E ∧ (7, 4) ∉ E := by
  unfold noP at h
  simp only [Bool.and_eq_true, decide_eq_true_eq] at h
  exact ⟨h.1.1.1.1.1.1, h.1.1.1.1.1.2, h.1.1.1.1.2, h.1.1.1.2, h.1.1.2, h.1.2, h.2⟩
theorem pv_keep (hO : Ok D G H) (gp : G p = 4) (K9 : Keep D G E H H1) (hE : noP E = true) {k : Nat} (hk : k < 22) : pv D H1 p k = pv D H p k := by
  obtain ⟨e0, e1, e2, e3, e4, e5, e6⟩ := noP_k hE
  refine pv_eq (K9.fI gp rfl (by decide) e1) (K9.fI gp rfl (by decide) e2) (K9.fI gp rfl (by decide) e3) (K9.fI gp rfl (by decide) e4) (fun m hm => ?_) (fun m hm => ?_) hk
  · rw [hs_keep hO (Or.inl gp) K9 e0]
    exact K9.fI (hO.role (r := 6) (hO.rol gp rfl (by decide) rfl) rfl hm) rfl (by decide) e5
  · rw [ho_keep hO (Or.inl gp) K9 e0]
    exact K9.fI (ho_role hO (Or.inl gp) hm) rfl (by decide) e6
/-- with the draft -/
def noQ (E : List (Nat × Nat)) : Bool := noP E && decide ((23, 3) ∉ E) && decide ((23, 4) ∉ E) && decide ((23, 5) ∉ E) && decide ((23, 8) ∉ E) && decide ((25, 0) ∉ E)
theorem noQ_k (h : noQ E = true) : noP E = true ∧ (23, 3) ∉ E ∧ (23, 4) ∉ E ∧ (23, 5) ∉ E ∧ (23, 8) ∉ E ∧ (25, 0) ∉ E := by
  unfold noQ at h
  simp only [Bool.and_eq_true, decide_eq_true_eq] at h
  exact ⟨h.1.1.1.1.1, h.1.1.1.1.2, h.1.1.1.2, h.1.1.2, h.1.2, h.2⟩
theorem pv_keepA (hO : Ok D G H) (gp : G p = 4 ∨ G p = 23) (K9 : Keep D G E H H1) (hE : noQ E = true) {k : Nat} (hk : k < 22) : pv D H1 p k = pv D H p k := by
  obtain ⟨ep, e1, e2, e3, e4, e5⟩ := noQ_k hE
  obtain ⟨e0, -, -, -, -, -, e6⟩ := noP_k ep
  rcases gp with gp | gp
  · exact pv_keep hO gp K9 ep hk
  · refine pv_eq (K9.fI gp rfl (by decide) e1) (K9.fI gp rfl (by decide) e2) (K9.fI gp rfl (by decide) e3) (K9.fI gp rfl (by decide) e4) (fun m hm => ?_) (fun m hm => ?_) hk
    · rw [hs_keep hO (Or.inr gp) K9 e0]
      exact K9.fI (hO.role (r := 24) (hO.rol gp rfl (by decide) rfl) rfl hm) rfl (by decide) e5
    · rw [ho_keep hO (Or.inr gp) K9 e0]
      exact K9.fI (ho_role hO (Or.inr gp) hm) rfl (by decide) e6
theorem BC.after {H2 : Heap} (b : BC D G H H1 p q) (hO : Ok D G H1) (gp : G p = 4 ∨ G p = 23) (K9 : Keep D G E H1 H2) (hE : noQ E = true := by decide +kernel) : BC D G H H2 p q :=
  ⟨fun d1 d2 k hk => (pv_keepA hO gp K9 hE hk).trans (b.1 d1 d2 k hk), fun o ho d2 k hk => (pv_keepA hO ho K9 hE hk).trans (b.2 o ho d2 k hk)⟩
theorem BC.ahead {H2 : Heap} (b : BC D G H H1 p q) (hO : Ok D G H2) (gp : G p = 4 ∨ G p = 23) (gq : G q = 4 ∨ G q = 23) (K9 : Keep D G E H2 H) (hE : noQ E = true := by decide +kernel) : BC D G H2 H1 p q := by
  have e0 := (noP_k (noQ_k hE).1).1
  exact ⟨fun d1 d2 k hk => (b.1 (d1.keep hO gp K9 e0) (d2.keep hO gp gq K9 e0) k hk).trans (pv_keepA hO gq K9 hE hk), fun o ho d2 k hk => (b.2 o ho (d2.keep hO gp ho K9 e0) k hk).trans (pv_keepA hO ho K9 hE hk)⟩
/-! all that the class keeps of them: now 0, kept 1, draft 2, the states 3 to 14 -/
def stP (D : DD) (H : Heap) (x j : Nat) : Nat := eR H (fR D H 7 (fR D H 10 x 4) 0) j
def ob (D : DD) (H : Heap) (x i : Nat) : Nat := if i = 0 then fR D H 10 x 1 else if i = 1 then fR D H 10 x 3 else if i = 2 then fR D H 10 x 2 else stP D H x (i - 3)
def DJ (D : DD) (H : Heap) (x : Nat) : Prop := (∀ i, i < 15 → DS D H (ob D H x i)) ∧ ∀ i j, i < 15 → j < 15 → i ≠ j → DP D H (ob D H x i) (ob D H x j)
def pN (D : DD) (H : Heap) (x : Nat) : Int := (fI D H 7 (fR D H 10 x 4) 1).toInt
def pS (D : DD) (H : Heap) (x : Nat) : Int := (fI D H 7 (fR D H 10 x 4) 2).toInt
def CA (D : DD) (H : Heap) (x : Nat) (s : Sg) : Prop := ∀ j : Nat, (j : Int) < pS D H x → SV (pv D H (stP D H x (((pN D H x).toNat + 11 - j) % 12))) s
def CI (D : DD) (H : Heap) (x : Nat) (V K : Sg) : Prop := DJ D H x ∧ SV (pv D H (fR D H 10 x 1)) V ∧ CA D H x V ∧ ((fI D H 10 x 8).toInt = 1 → SV (pv D H (fR D H 10 x 3)) K)
def noO (E : List (Nat × Nat)) : Bool := noD E && decide ((1, 1) ∉ E) && decide ((1, 2) ∉ E) && decide ((1, 3) ∉ E) && decide ((1, 4) ∉ E) && decide ((16, 0) ∉ E) && decide ((17, 0) ∉ E)
theorem noO_k (h : noO E = true) : noD E = true ∧ (1, 1) ∉ E ∧ (1, 2) ∉ E ∧ (1, 3) ∉ E ∧ (1, 4) ∉ E ∧ (16, 0) ∉ E ∧ (17, 0) ∉ E := by
  unfold noO at h
  simp only [Bool.and_eq_true, decide_eq_true_eq] at h
  exact ⟨h.1.1.1.1.1.1, h.1.1.1.1.1.2, h.1.1.1.1.2, h.1.1.1.2, h.1.1.2, h.1.2, h.2⟩
theorem gPast (hO : Ok D G H) (gx : G x = 1) : G (fR D H 10 x 4) = 16 := hO.rol gx rfl (by decide) rfl
theorem st_role (hO : Ok D G H) (gx : G x = 1) {j : Nat} (hj : j < 12) : G (stP D H x j) = 4 := hO.role (r := 17) (hO.rol (gPast hO gx) rfl (by decide) rfl) rfl hj
theorem ob_role (hO : Ok D G H) (gx : G x = 1) {i : Nat} (hi : i < 15) : G (ob D H x i) = 4 ∨ G (ob D H x i) = 23 := by
  unfold ob
  by_cases c0 : i = 0
  · rw [if_pos c0]; exact Or.inl (hO.rol gx rfl (by decide) rfl)
  rw [if_neg c0]
  by_cases c1 : i = 1
  · rw [if_pos c1]; exact Or.inl (hO.rol gx rfl (by decide) rfl)
  rw [if_neg c1]
  by_cases c2 : i = 2
  · rw [if_pos c2]
    have := (hO.fr (k := 2) gx rfl (by decide) rfl).2
    exact this.symm
  rw [if_neg c2]
  exact Or.inl (st_role hO gx (by omega))
theorem st_keep (hO : Ok D G H) (gx : G x = 1) (K9 : Keep D G E H H1) (hE : noO E = true) (j : Nat) : stP D H1 x j = stP D H x j := by
  obtain ⟨e0, e1, e2, e3, e4, e5, e6⟩ := noO_k hE
  unfold stP
  rw [K9.fR gx rfl (by decide) e4, K9.fR (gPast hO gx) rfl (by decide) e5]
  exact congrArg vR (eV_of (K9.c (hO.rol (gPast hO gx) rfl (by decide) rfl) rfl e6) j)
theorem ob_keep (hO : Ok D G H) (gx : G x = 1) (K9 : Keep D G E H H1) (hE : noO E = true) (i : Nat) : ob D H1 x i = ob D H x i := by
  obtain ⟨e0, e1, e2, e3, e4, e5, e6⟩ := noO_k hE
  unfold ob
  rw [K9.fR gx rfl (by decide) e1, K9.fR gx rfl (by decide) e3, K9.fR gx rfl (by decide) e2, st_keep hO gx K9 hE]
theorem DJ.keep (h : DJ D H x) (hO : Ok D G H) (gx : G x = 1) (K9 : Keep D G E H H1) (hE : noO E = true) : DJ D H1 x := by
  have e0 := (noO_k hE).1
  refine ⟨fun i hi => ?_, fun i j hi hj hij => ?_⟩
  · rw [ob_keep hO gx K9 hE]
    exact (h.1 i hi).keep hO (ob_role hO gx hi) K9 e0
  · rw [ob_keep hO gx K9 hE, ob_keep hO gx K9 hE]
    exact (h.2 i j hi hj hij).keep hO (ob_role hO gx hi) (ob_role hO gx hj) K9 e0
def noC (E : List (Nat × Nat)) : Bool := noO E && noP E && decide ((16, 1) ∉ E) && decide ((16, 2) ∉ E) && decide ((1, 8) ∉ E)
theorem noC_k (h : noC E = true) : noO E = true ∧ noP E = true ∧ (16, 1) ∉ E ∧ (16, 2) ∉ E ∧ (1, 8) ∉ E := by
  unfold noC at h
  simp only [Bool.and_eq_true, decide_eq_true_eq] at h
  exact ⟨h.1.1.1.1, h.1.1.1.2, h.1.1.2, h.1.2, h.2⟩
theorem CI.keep (h : CI D H x V K) (hO : Ok D G H) (gx : G x = 1) (K9 : Keep D G E H H1) (hE : noC E = true) : CI D H1 x V K := by
  obtain ⟨eo, ep, e1, e2, e8⟩ := noC_k hE
  obtain ⟨e0, o1, o2, o3, o4, o5, o6⟩ := noO_k eo
  obtain ⟨d, hv, ha, hk⟩ := h
  have en : pN D H1 x = pN D H x := by
    unfold pN
    rw [K9.fR gx rfl (by decide) o4, K9.fI (gPast hO gx) rfl (by decide) e1]
  have es : pS D H1 x = pS D H x := by
    unfold pS
    rw [K9.fR gx rfl (by decide) o4, K9.fI (gPast hO gx) rfl (by decide) e2]
  refine ⟨d.keep hO gx K9 eo, fun k hk9 => ?_, fun j hj k hk9 => ?_, fun hi k hk9 => ?_⟩
  · rw [K9.fR gx rfl (by decide) o1, pv_keep hO (hO.rol gx rfl (by decide) rfl) K9 ep hk9]
    exact hv k hk9
  · rw [es] at hj
    rw [en, st_keep hO gx K9 eo, pv_keep hO (st_role hO gx (by omega)) K9 ep hk9]
    exact ha j hj k hk9
  · rw [K9.fI gx rfl (by decide) e8] at hi
    rw [K9.fR gx rfl (by decide) o3, pv_keep hO (hO.rol gx rfl (by decide) rfl) K9 ep hk9]
    exact hk hi k hk9
/-! one of them becomes another -/
theorem BC.fr (b : BC D G H H1 p q) (hO : Ok D G H) (gx : G x = 1) (d : DJ D H x) {i j : Nat} (hi : i < 15) (hj : j < 15) (ep : p = ob D H x i) (hij : i ≠ j) (h : SV (pv D H (ob D H x j)) s) : SV (pv D H1 (ob D H x j)) s := fun k hk => by
  rw [b.2 _ (ob_role hO gx hj) (by rw [ep]; exact d.2 i j hi hj hij) k hk]
  exact h k hk
theorem BC.to (b : BC D G H H1 p q) (d : DJ D H x) {i j : Nat} (hi : i < 15) (hj : j < 15) (ep : p = ob D H x i) (eq : q = ob D H x j) (hij : i ≠ j) (h : SV (pv D H (ob D H x j)) s) : SV (pv D H1 (ob D H x i)) s := fun k hk => by
  rw [← ep, b.1 (by rw [ep]; exact d.1 i hi) (by rw [ep, eq]; exact d.2 i j hi hj hij) k hk, eq]
  exact h k hk
theorem ob_st (D : DD) (H : Heap) (x : Nat) (j : Nat) : ob D H x (3 + j) = stP D H x j := by
  unfold ob
  rw [if_neg (by omega), if_neg (by omega), if_neg (by omega), show 3 + j - 3 = j by omega]
theorem ob_0 (D : DD) (H : Heap) (x : Nat) : ob D H x 0 = fR D H 10 x 1 := rfl
theorem ob_1 (D : DD) (H : Heap) (x : Nat) : ob D H x 1 = fR D H 10 x 3 := rfl
theorem ob_2 (D : DD) (H : Heap) (x : Nat) : ob D H x 2 = fR D H 10 x 2 := rfl
/-- past.remember(now) -/
theorem CI.rem (h : CI D H x V K) (hO : Ok D G H) (gx : G x = 1) (K9 : Keep D G E H H1) (hE : noO E = true) (e8 : (1, 8) ∉ E) (b : BC D G H H1 (stP D H x (pN D H x).toNat) (fR D H 10 x 1)) (hN : 0 ≤ pN D H x ∧ pN D H x ≤ 11) (hS : 0 ≤ pS D H x ∧ pS D H x ≤ 12) (en : (fI D H1 7 (fR D H 10 x 4) 1).toInt = (pN D H x + 1) % 12) (es : (fI D H1 7 (fR D H 10 x 4) 2).toInt = min 12 (pS D H x + 1)) : CI D H1 x V K := by
  obtain ⟨e0, o1, o2, o3, o4, o5, o6⟩ := noO_k hE
  have en : pN D H1 x = (pN D H x + 1) % 12 := by unfold pN; rw [K9.fR gx rfl (by decide) o4]; exact en
  have es : pS D H1 x = min 12 (pS D H x + 1) := by unfold pS; rw [K9.fR gx rfl (by decide) o4]; exact es
  obtain ⟨d, hv, ha, hk⟩ := h
  have ep : stP D H x (pN D H x).toNat = ob D H x (3 + (pN D H x).toNat) := (ob_st D H x _).symm
  refine ⟨d.keep hO gx K9 hE, ?_, fun j hj => ?_, fun hi => ?_⟩
  · rw [K9.fR gx rfl (by decide) o1]
    exact b.fr (i := 3 + (pN D H x).toNat) (j := 0) hO gx d (by omega) (by omega) ep (by omega) hv
  · rw [st_keep hO gx K9 hE, en]
    by_cases z : j = 0
    · rw [show (((pN D H x + 1) % 12).toNat + 11 - j) % 12 = (pN D H x).toNat by omega, ← ob_st]
      exact b.to (i := 3 + (pN D H x).toNat) (j := 0) d (by omega) (by omega) ep rfl (by omega) hv
    · have e9 : (((pN D H x + 1) % 12).toNat + 11 - j) % 12 = ((pN D H x).toNat + 11 - (j - 1)) % 12 := by omega
      rw [e9, ← ob_st]
      refine b.fr (i := 3 + (pN D H x).toNat) hO gx d (by omega) (by omega) ep (by omega) ?_
      rw [ob_st]
      exact ha (j - 1) (by omega)
  · rw [K9.fI gx rfl (by decide) e8] at hi
    rw [K9.fR gx rfl (by decide) o3]
    exact b.fr (i := 3 + (pN D H x).toNat) (j := 1) hO gx d (by omega) (by omega) ep (by omega) (hk hi)
/-- past.recall(now) where there is an act -/
theorem CI.rec (h : CI D H x V K) (hO : Ok D G H) (gx : G x = 1) (K9 : Keep D G E H H1) (hE : noO E = true) (e8 : (1, 8) ∉ E) (b : BC D G H H1 (fR D H 10 x 1) (stP D H x (((pN D H x).toNat + 11) % 12))) (hN : 0 ≤ pN D H x ∧ pN D H x ≤ 11) (hS : 1 ≤ pS D H x ∧ pS D H x ≤ 12) (en : (fI D H1 7 (fR D H 10 x 4) 1).toInt = (pN D H x + 11) % 12) (es : (fI D H1 7 (fR D H 10 x 4) 2).toInt = pS D H x - 1) : CI D H1 x V K := by
  obtain ⟨e0, o1, o2, o3, o4, o5, o6⟩ := noO_k hE
  have en : pN D H1 x = (pN D H x + 11) % 12 := by unfold pN; rw [K9.fR gx rfl (by decide) o4]; exact en
  have es : pS D H1 x = pS D H x - 1 := by unfold pS; rw [K9.fR gx rfl (by decide) o4]; exact es
  obtain ⟨d, hv, ha, hk⟩ := h
  have eq9 : stP D H x (((pN D H x).toNat + 11) % 12) = ob D H x (3 + ((pN D H x).toNat + 11) % 12) := (ob_st D H x _).symm
  have h0 : SV (pv D H (ob D H x (3 + ((pN D H x).toNat + 11) % 12))) V := by
    rw [ob_st]
    exact ha 0 (by omega)
  refine ⟨d.keep hO gx K9 hE, ?_, fun j hj => ?_, fun hi => ?_⟩
  · rw [K9.fR gx rfl (by decide) o1]
    exact b.to (i := 0) d (by omega) (by omega) rfl eq9 (by omega) h0
  · rw [st_keep hO gx K9 hE, en]
    have e9 : (((pN D H x + 11) % 12).toNat + 11 - j) % 12 = ((pN D H x).toNat + 11 - (j + 1)) % 12 := by omega
    rw [e9, ← ob_st]
    refine b.fr (i := 0) hO gx d (by omega) (by omega) rfl (by omega) ?_
    rw [ob_st]
    exact ha (j + 1) (by omega)
  · rw [K9.fI gx rfl (by decide) e8] at hi
    rw [K9.fR gx rfl (by decide) o3]
    exact b.fr (i := 0) (j := 1) hO gx d (by omega) (by omega) rfl (by omega) (hk hi)
theorem CI.recall {r : Int32} (h : CI D H x V K) (hO : Ok D G H) (gx : G x = 1) (K9 : Keep D G E H H1) (q : (r.toInt = 0 ∧ (fI D H 7 (fR D H 10 x 4) 2).toInt = 0 ∧ H1 = H) ∨ (r.toInt = 1 ∧ 1 ≤ (fI D H 7 (fR D H 10 x 4) 2).toInt ∧ BC D G H H1 (fR D H 10 x 1) (eR H (fR D H 7 (fR D H 10 x 4) 0) (((fI D H 7 (fR D H 10 x 4) 1).toInt.toNat + 11) % 12)) ∧ (fI D H1 7 (fR D H 10 x 4) 1).toInt = ((fI D H 7 (fR D H 10 x 4) 1).toInt + 11) % 12 ∧ (fI D H1 7 (fR D H 10 x 4) 2).toInt = (fI D H 7 (fR D H 10 x 4) 2).toInt - 1)) (hE : noO E = true := by decide +kernel) (e8 : (1, 8) ∉ E := by decide +kernel) : CI D H1 x V K := by
  rcases q with ⟨-, -, e⟩ | ⟨-, h1, b, en, es⟩
  · rw [e]; exact h
  · exact h.rec hO gx K9 hE e8 b (hO.rng (k := 1) (gPast hO gx) rfl (by decide) rfl) ⟨h1, (hO.rng (k := 2) (gPast hO gx) rfl (by decide) rfl).2⟩ en es
/-- what stays of the ring where next, size and the rows stay -/
theorem CA.fr (ha : CA D H x V) (hO : Ok D G H) (gx : G x = 1) (K9 : Keep D G E H H1) (hE : noO E = true) (e1 : (16, 1) ∉ E) (e2 : (16, 2) ∉ E) (b : BC D G H H1 p q) (d : DJ D H x) {i : Nat} (hi : i < 3) (ep : p = ob D H x i) : CA D H1 x V := by
  obtain ⟨e0, o1, o2, o3, o4, o5, o6⟩ := noO_k hE
  have en : pN D H1 x = pN D H x := by
    unfold pN
    rw [K9.fR gx rfl (by decide) o4, K9.fI (gPast hO gx) rfl (by decide) e1]
  have es : pS D H1 x = pS D H x := by
    unfold pS
    rw [K9.fR gx rfl (by decide) o4, K9.fI (gPast hO gx) rfl (by decide) e2]
  intro j hj
  rw [es] at hj
  rw [en, st_keep hO gx K9 hE, ← ob_st]
  refine b.fr (i := i) hO gx d (by omega) (by omega) ep (by omega) ?_
  rw [ob_st]
  exact ha j hj
/-- the draft becomes another -/
theorem CI.dr (h : CI D H x V K) (hO : Ok D G H) (gx : G x = 1) (K9 : Keep D G E H H1) (b : BC D G H H1 (fR D H 10 x 2) q) (hE : noO E = true := by decide +kernel) (e1 : (16, 1) ∉ E := by decide +kernel) (e2 : (16, 2) ∉ E := by decide +kernel) (e8 : (1, 8) ∉ E := by decide +kernel) : CI D H1 x V K := by
  obtain ⟨e0, o1, o2, o3, o4, o5, o6⟩ := noO_k hE
  obtain ⟨d, hv, ha, hk⟩ := h
  refine ⟨d.keep hO gx K9 hE, ?_, ha.fr hO gx K9 hE e1 e2 b d (i := 2) (by decide) rfl, fun hi => ?_⟩
  · rw [K9.fR gx rfl (by decide) o1]
    exact b.fr (i := 2) (j := 0) hO gx d (by decide) (by decide) rfl (by decide) hv
  · rw [K9.fI gx rfl (by decide) e8] at hi
    rw [K9.fR gx rfl (by decide) o3]
    exact b.fr (i := 2) (j := 1) hO gx d (by decide) (by decide) rfl (by decide) (hk hi)
/-- the image -/
def CL (D : DD) (H : Heap) (x : Nat) (V K : Sg) : Prop := (DJ D H x ∧ SV (pv D H (fR D H 10 x 1)) V ∧ CA D H x V ∧ SV (pv D H (fR D H 10 x 3)) V) ∧ SV K K
def CJ (D : DD) (H : Heap) (x : Nat) (V K : Sg) : Prop := CI D H x V V ∧ SV K K
theorem CI.img (h : CI D H x V K) (hO : Ok D G H) (gx : G x = 1) (K9 : Keep D G E H H1) (b : BC D G H H1 (fR D H 10 x 3) (fR D H 10 x 1)) (hE : noO E = true := by decide +kernel) (e1 : (16, 1) ∉ E := by decide +kernel) (e2 : (16, 2) ∉ E := by decide +kernel) : CL D H1 x V K := by
  obtain ⟨e0, o1, o2, o3, o4, o5, o6⟩ := noO_k hE
  obtain ⟨d, hv, ha, hk⟩ := h
  refine ⟨⟨d.keep hO gx K9 hE, ?_, ha.fr hO gx K9 hE e1 e2 b d (i := 1) (by decide) rfl, ?_⟩, fun _ _ => rfl⟩
  · rw [K9.fR gx rfl (by decide) o1]
    exact b.fr (i := 1) (j := 0) hO gx d (by decide) (by decide) rfl (by decide) hv
  · rw [K9.fR gx rfl (by decide) o3]
    exact b.to (i := 1) (j := 0) d (by decide) (by decide) rfl rfl (by decide) hv
theorem CL.set (h : CL D H x V K) (hO : Ok D G H) (gx : G x = 1) (K9 : Keep D G E H H1) (eo : noO E = true := by decide +kernel) (ep : noP E = true := by decide +kernel) (e1 : (16, 1) ∉ E := by decide +kernel) (e2 : (16, 2) ∉ E := by decide +kernel) : CJ D H1 x V K := by
  obtain ⟨e0, o1, o2, o3, o4, o5, o6⟩ := noO_k eo
  obtain ⟨⟨d, hv, ha, hk⟩, hK⟩ := h
  have en : pN D H1 x = pN D H x := by
    unfold pN
    rw [K9.fR gx rfl (by decide) o4, K9.fI (gPast hO gx) rfl (by decide) e1]
  have es : pS D H1 x = pS D H x := by
    unfold pS
    rw [K9.fR gx rfl (by decide) o4, K9.fI (gPast hO gx) rfl (by decide) e2]
  refine ⟨⟨d.keep hO gx K9 eo, fun k hk9 => ?_, fun j hj k hk9 => ?_, fun hi k hk9 => ?_⟩, hK⟩
  · rw [K9.fR gx rfl (by decide) o1, pv_keep hO (hO.rol gx rfl (by decide) rfl) K9 ep hk9]
    exact hv k hk9
  · rw [es] at hj
    rw [en, st_keep hO gx K9 eo, pv_keep hO (st_role hO gx (by omega)) K9 ep hk9]
    exact ha j hj k hk9
  · rw [K9.fR gx rfl (by decide) o3, pv_keep hO (hO.rol gx rfl (by decide) rfl) K9 ep hk9]
    exact hk k hk9
/-- back to the image -/
def CM (D : DD) (H : Heap) (x : Nat) (V K : Sg) : Prop := (DJ D H x ∧ SV (pv D H (fR D H 10 x 1)) K ∧ SV (pv D H (fR D H 10 x 3)) K ∧ (fI D H 10 x 8).toInt = 1) ∧ SV V V
def CB (D : DD) (H : Heap) (x : Nat) (V K : Sg) : Prop := ((fI D H 10 x 8).toInt = 1 → CI D H x K K) ∧ ((fI D H 10 x 8).toInt = 0 → CI D H x V K)
theorem CI.img0 (h : CI D H x V K) (h0 : (fI D H 10 x 8).toInt = 0) : CB D H x V K := ⟨fun z => absurd z (by omega), fun _ => h⟩
theorem CI.bk (h : CI D H x V K) (hO : Ok D G H) (gx : G x = 1) (K9 : Keep D G E H H1) (hi : (fI D H 10 x 8).toInt = 1) (b : BC D G H H1 (fR D H 10 x 1) (fR D H 10 x 3)) (hE : noO E = true := by decide +kernel) (e8 : (1, 8) ∉ E := by decide +kernel) : CM D H1 x V K := by
  obtain ⟨e0, o1, o2, o3, o4, o5, o6⟩ := noO_k hE
  obtain ⟨d, hv, ha, hk⟩ := h
  refine ⟨⟨d.keep hO gx K9 hE, ?_, ?_, by rw [K9.fI gx rfl (by decide) e8]; exact hi⟩, fun _ _ => rfl⟩
  · rw [K9.fR gx rfl (by decide) o1]
    exact b.to (i := 0) (j := 1) d (by decide) (by decide) rfl rfl (by decide) (hk hi)
  · rw [K9.fR gx rfl (by decide) o3]
    exact b.fr (i := 0) (j := 1) hO gx d (by decide) (by decide) rfl (by decide) (hk hi)
theorem CM.forget (h : CM D H x V K) (hO : Ok D G H) (gx : G x = 1) (K9 : Keep D G E H H1) (hz : (fI D H1 7 (fR D H 10 x 4) 2).toInt = 0) (eo : noO E = true := by decide +kernel) (ep : noP E = true := by decide +kernel) (e8 : (1, 8) ∉ E := by decide +kernel) : CB D H1 x V K := by
  obtain ⟨e0, o1, o2, o3, o4, o5, o6⟩ := noO_k eo
  obtain ⟨⟨d, hv, hk, hi⟩, hV⟩ := h
  have e9 : (fI D H1 10 x 8).toInt = 1 := by rw [K9.fI gx rfl (by decide) e8]; exact hi
  refine ⟨fun _ => ⟨d.keep hO gx K9 eo, fun k hk9 => ?_, fun j hj => ?_, fun _ k hk9 => ?_⟩, fun z => absurd z (by omega)⟩
  · rw [K9.fR gx rfl (by decide) o1, pv_keep hO (hO.rol gx rfl (by decide) rfl) K9 ep hk9]
    exact hv k hk9
  · unfold pS at hj
    rw [K9.fR gx rfl (by decide) o4, hz] at hj
    exact absurd hj (by omega)
  · rw [K9.fR gx rfl (by decide) o3, pv_keep hO (hO.rol gx rfl (by decide) rfl) K9 ep hk9]
    exact hk k hk9
/-! the walk of become: i houses, j hearths are copied -/
theorem Pt.any {ci N a k j : Nat} {v : Value} (P : Pt D H H1 ci N a k v) (hj : j < N) (h : j ≠ k) (q : Nat) : fI D H1 ci q j = fI D H ci q j := by
  by_cases z : q = a
  · subst z
    exact Pt.o P hj h
  · exact Pt.f P z
def BI (D : DD) (G : Nat → Nat) (H0 H : Heap) (a0 a1 : Nat) (i j : Int) : Prop :=
  (∀ q, G q = 7 → (∀ m, m < 6 → q ≠ hoA D H0 a0 m) → fI D H 2 q 4 = fI D H0 2 q 4) ∧
  (DS D H0 a0 → DP D H0 a0 a1 → ∀ m : Nat, (m : Int) < i → fI D H 2 (hoA D H0 a0 m) 4 = fI D H0 2 (hoA D H0 a1 m) 4) ∧
  (∀ q, (G q = 8 ∨ G q = 25) → (∀ m, m < 12 → q ≠ hsA D H0 a0 m) → fI D H 1 q 0 = fI D H0 1 q 0) ∧
  (DS D H0 a0 → DP D H0 a0 a1 → ∀ m : Nat, (m : Int) < j → fI D H 1 (hsA D H0 a0 m) 0 = fI D H0 1 (hsA D H0 a1 m) 0)
/-- the fields of every Parish are as at the start -/
def BF (D : DD) (G : Nat → Nat) (H0 H : Heap) : Prop := ∀ q k, (G q = 4 ∨ G q = 23) → k < 14 → fI D H 5 q k = fI D H0 5 q k
theorem BI.cast {i j i1 j1 : Int} (h : BI D G H0 H a0 a1 i j) (hi : i = i1) (hj : j = j1) : BI D G H0 H a0 a1 i1 j1 := by rw [← hi, ← hj]; exact h
theorem BI.start : BI D G H H a0 a1 0 0 := ⟨fun _ _ _ => rfl, fun _ _ m hm => absurd hm (by omega), fun _ _ _ => rfl, fun _ _ m hm => absurd hm (by omega)⟩
theorem BF.start : BF D G H H := fun _ _ _ _ => rfl
theorem BF.keep (h : BF D G H0 H) (K9 : Keep D G E H H1) (hE : (List.range 14).all (fun k => decide ((4, k) ∉ E) && decide ((23, k) ∉ E)) = true) : BF D G H0 H1 := fun q k hq hk => by
  have h9 := List.all_eq_true.mp hE k (List.mem_range.mpr hk)
  rw [Bool.and_eq_true, decide_eq_true_eq, decide_eq_true_eq] at h9
  rw [← h q k hq hk]
  rcases hq with hq | hq
  · exact K9.fI hq rfl hk h9.1
  · exact K9.fI hq rfl hk h9.2
theorem BI.keep {i j : Int} (h : BI D G H0 H a0 a1 i j) (hO : Ok D G H0) (g0 : G a0 = 4 ∨ G a0 = 23) (K9 : Keep D G E H H1) (hi : i ≤ 6) (hj : j ≤ 12) (e7 : (7, 4) ∉ E := by decide +kernel) (e8 : (8, 0) ∉ E := by decide +kernel) (e25 : (25, 0) ∉ E := by decide +kernel) : BI D G H0 H1 a0 a1 i j := by
  have f7 : ∀ q, G q = 7 → fI D H1 2 q 4 = fI D H 2 q 4 := fun q hq => K9.fI hq rfl (by decide) e7
  have f8 : ∀ q, (G q = 8 ∨ G q = 25) → fI D H1 1 q 0 = fI D H 1 q 0 := fun q hq => hq.elim (fun z => K9.fI z rfl (by decide) e8) (fun z => K9.fI z rfl (by decide) e25)
  refine ⟨fun q hq hm => (f7 q hq).trans (h.1 q hq hm), fun h1 h2 m hm => (f7 _ (ho_role hO g0 (by omega))).trans (h.2.1 h1 h2 m hm), fun q hq hm => (f8 q hq).trans (h.2.2.1 q hq hm), fun h1 h2 m hm => (f8 _ (hs_role hO g0 (by omega))).trans (h.2.2.2 h1 h2 m hm)⟩
theorem BI.house {i i1 : Int} {h0 h1 : Nat} (h : BI D G H0 H a0 a1 i 0) (hO : Ok D G H0) (g0 : G a0 = 4 ∨ G a0 = 23) (g1 : G a1 = 4 ∨ G a1 = 23) (K9 : Keep D G E H H1) (hb : fI D H1 2 h0 4 = fI D H 2 h1 4) (hf : ∀ q, q ≠ h0 → fI D H1 2 q 4 = fI D H 2 q 4) (e0 : h0 = hoA D H0 a0 i.toNat) (e1 : h1 = hoA D H0 a1 i.toNat) (hi : 0 ≤ i ∧ i < 6) (hi1 : i1 = i + 1) (e8 : (8, 0) ∉ E := by decide +kernel) (e25 : (25, 0) ∉ E := by decide +kernel) : BI D G H0 H1 a0 a1 i1 0 := by
  have f8 : ∀ q, (G q = 8 ∨ G q = 25) → fI D H1 1 q 0 = fI D H 1 q 0 := fun q hq => hq.elim (fun z => K9.fI z rfl (by decide) e8) (fun z => K9.fI z rfl (by decide) e25)
  refine ⟨fun q hq hm => (hf q (by rw [e0]; exact hm _ (by omega))).trans (h.1 q hq hm), fun d1 d2 m hm => ?_, fun q hq hm => (f8 q hq).trans (h.2.2.1 q hq hm), fun _ _ m hm => absurd hm (by omega)⟩
  by_cases z : m = i.toNat
  · subst z
    rw [← e0, hb, e1]
    exact h.1 _ (ho_role hO g1 (by omega)) (fun n hn => d2.2.2 _ n (by omega) hn)
  · rw [hf _ (fun y => z (d1.2 m i.toNat (by omega) (by omega) (by rw [y]; exact e0)))]
    exact h.2.1 d1 d2 m (by omega)
theorem BI.hearth {j j1 : Int} {h0 h1 : Nat} (h : BI D G H0 H a0 a1 6 j) (hO : Ok D G H0) (g0 : G a0 = 4 ∨ G a0 = 23) (g1 : G a1 = 4 ∨ G a1 = 23) (K9 : Keep D G E H H1) (hb : fI D H1 1 h0 0 = fI D H 1 h1 0) (hf : ∀ q, q ≠ h0 → fI D H1 1 q 0 = fI D H 1 q 0) (e0 : h0 = hsA D H0 a0 j.toNat) (e1 : h1 = hsA D H0 a1 j.toNat) (hj : 0 ≤ j ∧ j < 12) (hj1 : j1 = j + 1) (e7 : (7, 4) ∉ E := by decide +kernel) : BI D G H0 H1 a0 a1 6 j1 := by
  have f7 : ∀ q, G q = 7 → fI D H1 2 q 4 = fI D H 2 q 4 := fun q hq => K9.fI hq rfl (by decide) e7
  refine ⟨fun q hq hm => (f7 q hq).trans (h.1 q hq hm), fun d1 d2 m hm => (f7 _ (ho_role hO g0 (by omega))).trans (h.2.1 d1 d2 m hm), fun q hq hm => (hf q (by rw [e0]; exact hm _ (by omega))).trans (h.2.2.1 q hq hm), fun d1 d2 m hm => ?_⟩
  by_cases z : m = j.toNat
  · subst z
    rw [← e0, hb, e1]
    exact h.2.2.1 _ (hs_role hO g1 (by omega)) (fun n hn => d2.2.1 _ n (by omega) hn)
  · rw [hf _ (fun y => z (d1.1 m j.toNat (by omega) (by omega) (by rw [y]; exact e0)))]
    exact h.2.2.2 d1 d2 m (by omega)
theorem BC.of (h : BI D G H0 H1 a0 a1 6 12) (hO : Ok D G H0) (g0 : G a0 = 4 ∨ G a0 = 23) (g1 : G a1 = 4 ∨ G a1 = 23) (K9 : Keep D G E H0 H1) (f3 : fI D H1 5 a0 3 = fI D H0 5 a1 3) (f4 : fI D H1 5 a0 4 = fI D H0 5 a1 4) (f5 : fI D H1 5 a0 5 = fI D H0 5 a1 5) (f8 : fI D H1 5 a0 8 = fI D H0 5 a1 8)
    (fo : ∀ q, (G q = 4 ∨ G q = 23) → q ≠ a0 → fI D H1 5 q 3 = fI D H0 5 q 3 ∧ fI D H1 5 q 4 = fI D H0 5 q 4 ∧ fI D H1 5 q 5 = fI D H0 5 q 5 ∧ fI D H1 5 q 8 = fI D H0 5 q 8) (hE : noD E = true := by decide +kernel) : BC D G H0 H1 a0 a1 := by
  refine ⟨fun d1 d2 k hk => pv_eq f3 f4 f5 f8 (fun m hm => ?_) (fun m hm => ?_) hk, fun o ho d2 k hk => ?_⟩
  · rw [hs_keep hO g0 K9 hE]
    exact h.2.2.2 d1 d2 m (by omega)
  · rw [ho_keep hO g0 K9 hE]
    exact h.2.1 d1 d2 m (by omega)
  · obtain ⟨w3, w4, w5, w8⟩ := fo o ho (fun z => d2.1 z.symm)
    refine pv_eq w3 w4 w5 w8 (fun m hm => ?_) (fun m hm => ?_) hk
    · rw [hs_keep hO ho K9 hE]
      exact h.2.2.1 _ (hs_role hO ho hm) (fun n hn => d2.2.1 m n hm hn)
    · rw [ho_keep hO ho K9 hE]
      exact h.1 _ (ho_role hO ho hm) (fun n hn => d2.2.2 m n hm hn)
end CVs
/-! what a reader of the parish's text answers, and what it makes of the draft -/
def RsP (D : DD) (H : Heap) (tp dd : Nat) (T : Tx) (z : Rp) (r : Int32) : Prop := (∃ c s1, z = (true, c, s1) ∧ r.toInt = 1 ∧ TS D H tp T c ∧ SV (pv D H dd) s1) ∨ ∃ e s1, z = (false, e, s1) ∧ r.toInt = 0 ∧ (fI D H 9 tp 2).toInt = ((e : Nat) : Int)
section CRs
variable {D : DD} {G : Nat → Nat} {E : List (Nat × Nat)} {H H0 H1 : Heap} {p dd tp : Nat} {s s1 : Sg} {T : Tx} {z : Rp} {r : Int32} {b c e : Nat}
theorem RsP.ok (h : z = (true, c, s1)) (hr : r.toInt = 1) (ht : TS D H tp T c) (hd : SV (pv D H dd) s1) : RsP D H tp dd T z r := Or.inl ⟨c, s1, h, hr, ht, hd⟩
theorem RsP.no (h : z = (false, e, s1)) (hr : r.toInt = 0) (hw : (fI D H 9 tp 2).toInt = ((e : Nat) : Int)) : RsP D H tp dd T z r := Or.inr ⟨e, s1, h, hr, hw⟩
theorem tkW_t {w : List Nat} (h : tkW T b w = (true, c)) : isW T b w = true ∧ c = nx T b := by
  unfold tkW at h
  by_cases hw : isW T b w = true
  · rw [if_pos hw] at h
    exact ⟨hw, (Prod.mk.inj h).2.symm⟩
  · rw [if_neg hw] at h
    exact absurd (Prod.mk.inj h).1 Bool.false_ne_true
theorem tkW_f {w : List Nat} (h : tkW T b w = (false, e)) : isW T b w = false ∧ e = b := by
  unfold tkW at h
  by_cases hw : isW T b w = true
  · rw [if_pos hw] at h
    exact absurd (Prod.mk.inj h).1.symm Bool.false_ne_true
  · rw [if_neg hw] at h
    exact ⟨Bool.eq_false_iff.mpr hw, (Prod.mk.inj h).2.symm⟩
theorem dv_keep (h : SV (pv D H p) s) (hO : Ok D G H) (gp : G p = 4 ∨ G p = 23) (K9 : Keep D G E H H1) (hE : noQ E = true := by decide +kernel) : SV (pv D H1 p) s := fun k hk => (pv_keepA hO gp K9 hE hk).trans (h k hk)
theorem dv_0 (h : SV (pv D H p) s) : (fI D H 5 p 3).toInt = s 0 := h 0 (by decide)
theorem dv_1 (h : SV (pv D H p) s) : (fI D H 5 p 4).toInt = s 1 := h 1 (by decide)
theorem dv_2 (h : SV (pv D H p) s) : (fI D H 5 p 5).toInt = s 2 := h 2 (by decide)
theorem pv_h {j : Nat} (hj : j < 12) : pv D H p (3 + j) = (fI D H 1 (hsA D H p j) 0).toInt := by
  unfold pv
  rw [if_neg (by omega), if_neg (by omega), if_neg (by omega), if_pos (by omega), show 3 + j - 3 = j by omega]
theorem pv_w {j : Nat} : pv D H p (16 + j) = (fI D H 2 (hoA D H p j) 4).toInt := by
  unfold pv
  rw [if_neg (by omega), if_neg (by omega), if_neg (by omega), if_neg (by omega), if_neg (by omega), show 16 + j - 16 = j by omega]
theorem sv_k (h3 : (fI D H 5 p 3).toInt = s 0) (h4 : (fI D H 5 p 4).toInt = s 1) (h5 : (fI D H 5 p 5).toInt = s 2) (h8 : (fI D H 5 p 8).toInt = s 15) (hh : ∀ m, m < 12 → (fI D H 1 (hsA D H p m) 0).toInt = s (3 + m)) (hw : ∀ m, m < 6 → (fI D H 2 (hoA D H p m) 4).toInt = s (16 + m)) : SV (pv D H p) s := by
  intro k hk
  by_cases c0 : k = 0
  · subst c0; exact h3
  by_cases c1 : k = 1
  · subst c1; exact h4
  by_cases c2 : k = 2
  · subst c2; exact h5
  by_cases c3 : k < 15
  · obtain ⟨m, rfl⟩ : ∃ m, k = 3 + m := ⟨k - 3, by omega⟩
    rw [pv_h (by omega)]; exact hh m (by omega)
  by_cases c4 : k = 15
  · subst c4; exact h8
  obtain ⟨m, rfl⟩ : ∃ m, k = 16 + m := ⟨k - 16, by omega⟩
  rw [pv_w]; exact hw m (by omega)
/-- a house more -/
theorem DV.house {v : Int} {row : Nat} (h : SV (pv D H dd) s) (hO : Ok D G H) (gd : G dd = 23) (ds : DS D H dd) (K9 : Keep D G E H H1) (hc : (fI D H1 5 dd 3).toInt = s 0 + 1) (hb : ∀ q, G q = 7 → q ≠ row → fI D H1 2 q 4 = fI D H 2 q 4) (hv : (fI D H1 2 row 4).toInt = v) (er : row = hoA D H dd (s 0).toNat) (h0 : 0 ≤ s 0 ∧ s 0 < 6)
    (hE : noD E = true := by decide +kernel) (e4 : (23, 4) ∉ E := by decide +kernel) (e5 : (23, 5) ∉ E := by decide +kernel) (e8 : (23, 8) ∉ E := by decide +kernel) (e25 : (25, 0) ∉ E := by decide +kernel) : SV (pv D H1 dd) (hup s v) := by
  have gp : G dd = 4 ∨ G dd = 23 := Or.inr gd
  unfold hup
  refine sv_k ?_ ?_ ?_ ?_ (fun m hm => ?_) (fun m hm => ?_)
  · rw [sup_s]; exact hc
  · rw [sup_o _ _ (by decide), sup_o _ _ (by omega), K9.fI gd rfl (by decide) e4]; exact dv_1 h
  · rw [sup_o _ _ (by decide), sup_o _ _ (by omega), K9.fI gd rfl (by decide) e5]; exact dv_2 h
  · rw [sup_o _ _ (by decide), sup_o _ _ (by omega), K9.fI gd rfl (by decide) e8]; exact h 15 (by decide)
  · rw [sup_o _ _ (by omega), sup_o _ _ (by omega), hs_keep hO gp K9 hE, K9.fI (hs_25 hO gd hm) rfl (by decide) e25, ← h (3 + m) (by omega), pv_h hm]
  · rw [sup_o _ _ (by omega), ho_keep hO gp K9 hE]
    by_cases z : m = (s 0).toNat
    · subst z
      rw [sup_s, ← er]; exact hv
    · rw [sup_o _ _ (by omega), hb _ (ho_role hO gp hm) (by rw [er]; exact fun y => z (ds.2 m _ hm (by omega) y)), ← h (16 + m) (by omega), pv_w]
/-- a hearth more -/
theorem DV.hearth {v : Int} {row : Nat} (h : SV (pv D H dd) s) (hO : Ok D G H) (gd : G dd = 23) (ds : DS D H dd) (K9 : Keep D G E H H1) (hc : (fI D H1 5 dd 4).toInt = s 1 + 1) (hb : ∀ q, G q = 25 → q ≠ row → fI D H1 1 q 0 = fI D H 1 q 0) (hv : (fI D H1 1 row 0).toInt = v) (er : row = hsA D H dd (s 1).toNat) (h0 : 0 ≤ s 1 ∧ s 1 < 12)
    (hE : noD E = true := by decide +kernel) (e3 : (23, 3) ∉ E := by decide +kernel) (e5 : (23, 5) ∉ E := by decide +kernel) (e8 : (23, 8) ∉ E := by decide +kernel) (e7 : (7, 4) ∉ E := by decide +kernel) : SV (pv D H1 dd) (fup s v) := by
  have gp : G dd = 4 ∨ G dd = 23 := Or.inr gd
  unfold fup
  refine sv_k ?_ ?_ ?_ ?_ (fun m hm => ?_) (fun m hm => ?_)
  · rw [sup_o _ _ (by decide), sup_o _ _ (by omega), K9.fI gd rfl (by decide) e3]; exact dv_0 h
  · rw [sup_s]; exact hc
  · rw [sup_o _ _ (by decide), sup_o _ _ (by omega), K9.fI gd rfl (by decide) e5]; exact dv_2 h
  · rw [sup_o _ _ (by decide), sup_o _ _ (by omega), K9.fI gd rfl (by decide) e8]; exact h 15 (by decide)
  · rw [sup_o _ _ (by omega), hs_keep hO gp K9 hE]
    by_cases z : m = (s 1).toNat
    · subst z
      rw [sup_s, ← er]; exact hv
    · rw [sup_o _ _ (by omega), hb _ (hs_25 hO gd hm) (by rw [er]; exact fun y => z (ds.1 m _ hm (by omega) y)), ← h (3 + m) (by omega), pv_h hm]
  · rw [sup_o _ _ (by omega), sup_o _ _ (by omega), ho_keep hO gp K9 hE, K9.fI (ho_role hO gp hm) rfl (by decide) e7, ← h (16 + m) (by omega), pv_w]
/-- another visit -/
theorem DV.visit {v : Int32} (h : SV (pv D H dd) s) (hO : Ok D G H) (gd : G dd = 23) (P : Pt D H H1 5 14 dd 8 (.int v)) : SV (pv D H1 dd) (sup s 15 v.toInt) := by
  have K9 : Keep D G [(23, 8)] H H1 := Pt.keep gd rfl (by decide) P
  have gp : G dd = 4 ∨ G dd = 23 := Or.inr gd
  refine sv_k ?_ ?_ ?_ ?_ (fun m hm => ?_) (fun m hm => ?_)
  · rw [sup_o _ _ (by decide), Pt.o P (by decide) (by decide)]; exact dv_0 h
  · rw [sup_o _ _ (by decide), Pt.o P (by decide) (by decide)]; exact dv_1 h
  · rw [sup_o _ _ (by decide), Pt.o P (by decide) (by decide)]; exact dv_2 h
  · rw [sup_s, Pt.i P]
  · rw [sup_o _ _ (by omega), hs_keep hO gp K9 (by decide), K9.fI (k := 0) (hs_25 hO gd hm) rfl (by decide) (by decide), ← h (3 + m) (by omega), pv_h hm]
  · rw [sup_o _ _ (by omega), ho_keep hO gp K9 (by decide), K9.fI (k := 4) (ho_role hO gp hm) rfl (by decide) (by decide), ← h (16 + m) (by omega), pv_w]
/-- houses that are not the draft's tell what they told -/
def FH (D : DD) (G : Nat → Nat) (H H1 : Heap) (dd : Nat) : Prop := ∀ q, G q = 7 → (∀ m, m < 6 → q ≠ hoA D H dd m) → fI D H1 2 q 4 = fI D H 2 q 4
theorem FH.keep (h : FH D G H0 H dd) (K9 : Keep D G E H H1) (e7 : (7, 4) ∉ E := by decide +kernel) : FH D G H0 H1 dd := fun q hq hm => (K9.fI hq rfl (by decide) e7).trans (h q hq hm)
theorem FH.trans (h : FH D G H0 H dd) (h2 : FH D G H H1 dd) (hO : Ok D G H0) (gd : G dd = 23) (K9 : Keep D G E H0 H) (hE : noD E = true := by decide +kernel) : FH D G H0 H1 dd := fun q hq hm => (h2 q hq (fun m hm9 => by rw [ho_keep hO (Or.inr gd) K9 hE]; exact hm m hm9)).trans (h q hq hm)
/-- a text is read into the draft -/
theorem CI.read {x : Nat} {V K : Sg} (h : CI D H x V K) (hO : Ok D G H) (gx : G x = 1) (gd : G (fR D H 10 x 2) = 23) (K9 : Keep D G E H H1) (fh : FH D G H H1 (fR D H 10 x 2)) (hE : noO E = true := by decide +kernel) (e1 : (16, 1) ∉ E := by decide +kernel) (e2 : (16, 2) ∉ E := by decide +kernel) (e8 : (1, 8) ∉ E := by decide +kernel) (p3 : (4, 3) ∉ E := by decide +kernel) (p4 : (4, 4) ∉ E := by decide +kernel) (p5 : (4, 5) ∉ E := by decide +kernel) (p8 : (4, 8) ∉ E := by decide +kernel) (ph : (8, 0) ∉ E := by decide +kernel) : CI D H1 x V K := by
  obtain ⟨e0, o1, o2, o3, o4, o5, o6⟩ := noO_k hE
  obtain ⟨d, hv, ha, hk⟩ := h
  have pk : ∀ i, i < 15 → i ≠ 2 → G (ob D H x i) = 4 → ∀ k, k < 22 → pv D H1 (ob D H x i) k = pv D H (ob D H x i) k := by
    intro i hi hi2 gp k hk9
    refine pv_eq (K9.fI gp rfl (by decide) p3) (K9.fI gp rfl (by decide) p4) (K9.fI gp rfl (by decide) p5) (K9.fI gp rfl (by decide) p8) (fun m hm => ?_) (fun m hm => ?_) hk9
    · rw [hs_keep hO (Or.inl gp) K9 e0]
      exact K9.fI (hO.role (r := 6) (hO.rol gp rfl (by decide) rfl) rfl hm) rfl (by decide) ph
    · rw [ho_keep hO (Or.inl gp) K9 e0]
      exact fh _ (ho_role hO (Or.inl gp) hm) (fun n hn => (d.2 2 i (by decide) hi (fun z => hi2 z.symm)).2.2 m n hm hn)
  have en : pN D H1 x = pN D H x := by
    unfold pN
    rw [K9.fR gx rfl (by decide) o4, K9.fI (gPast hO gx) rfl (by decide) e1]
  have es : pS D H1 x = pS D H x := by
    unfold pS
    rw [K9.fR gx rfl (by decide) o4, K9.fI (gPast hO gx) rfl (by decide) e2]
  refine ⟨d.keep hO gx K9 hE, fun k hk9 => ?_, fun j hj k hk9 => ?_, fun hi k hk9 => ?_⟩
  · rw [K9.fR gx rfl (by decide) o1]
    exact (pk 0 (by decide) (by decide) (hO.rol gx rfl (by decide) rfl) k hk9).trans (hv k hk9)
  · rw [es] at hj
    rw [en, st_keep hO gx K9 hE]
    have h9 := pk (3 + ((pN D H x).toNat + 11 - j) % 12) (by omega) (by omega) (by rw [ob_st]; exact st_role hO gx (by omega)) k hk9
    rw [ob_st] at h9
    exact h9.trans (ha j hj k hk9)
  · rw [K9.fI gx rfl (by decide) e8] at hi
    rw [K9.fR gx rfl (by decide) o3]
    exact (pk 1 (by decide) (by decide) (hO.rol gx rfl (by decide) rfl) k hk9).trans (hk hi k hk9)
/-- now is what the draft was -/
def CN (D : DD) (H : Heap) (x : Nat) (s K : Sg) : Prop := DJ D H x ∧ SV (pv D H (fR D H 10 x 1)) s ∧ ((fI D H 10 x 8).toInt = 1 → SV (pv D H (fR D H 10 x 3)) K)
theorem CI.par {x : Nat} {V K : Sg} (h : CI D H x V K) (hO : Ok D G H) (gx : G x = 1) (K9 : Keep D G E H H1) (b : BC D G H H1 (fR D H 10 x 1) (fR D H 10 x 2)) (hs : SV (pv D H (fR D H 10 x 2)) s) (hE : noO E = true := by decide +kernel) (e8 : (1, 8) ∉ E := by decide +kernel) : CN D H1 x s K := by
  obtain ⟨e0, o1, o2, o3, o4, o5, o6⟩ := noO_k hE
  obtain ⟨d, hv, ha, hk⟩ := h
  refine ⟨d.keep hO gx K9 hE, ?_, fun hi => ?_⟩
  · rw [K9.fR gx rfl (by decide) o1]
    exact b.to (i := 0) (j := 2) d (by decide) (by decide) rfl rfl (by decide) hs
  · rw [K9.fI gx rfl (by decide) e8] at hi
    rw [K9.fR gx rfl (by decide) o3]
    exact b.fr (i := 0) (j := 1) hO gx d (by decide) (by decide) rfl (by decide) (hk hi)
theorem CN.texts {x : Nat} {K : Sg} {v : Int32} (h : CN D H x s K) (hO : Ok D G H) (gx : G x = 1) (P : Pt D H H1 5 14 (fR D H 10 x 1) 5 (.int v)) : CN D H1 x (sup s 2 v.toInt) K := by
  have gn : G (fR D H 10 x 1) = 4 := hO.rol gx rfl (by decide) rfl
  have K9 : Keep D G [(4, 5)] H H1 := Pt.keep gn rfl (by decide) P
  have fn : fR D H1 10 x 1 = fR D H 10 x 1 := K9.fR gx rfl (by decide) (by decide)
  have fk : fR D H1 10 x 3 = fR D H 10 x 3 := K9.fR gx rfl (by decide) (by decide)
  obtain ⟨d, hv, hk⟩ := h
  have sm : ∀ q, (G q = 4) → (∀ m, m < 12 → fI D H1 1 (hsA D H1 q m) 0 = fI D H 1 (hsA D H q m) 0) ∧ ∀ m, m < 6 → fI D H1 2 (hoA D H1 q m) 4 = fI D H 2 (hoA D H q m) 4 := fun q gq => ⟨fun m hm => by
      rw [hs_keep hO (Or.inl gq) K9 (by decide)]
      exact K9.fI (hO.role (r := 6) (hO.rol gq rfl (by decide) rfl) rfl hm) rfl (by decide) (by decide), fun m hm => by
      rw [ho_keep hO (Or.inl gq) K9 (by decide)]
      exact K9.fI (ho_role hO (Or.inl gq) hm) rfl (by decide) (by decide)⟩
  refine ⟨d.keep hO gx K9 (by decide), ?_, fun hi => ?_⟩
  · rw [fn]
    refine sv_k ?_ ?_ ?_ ?_ (fun m hm => ?_) (fun m hm => ?_)
    · rw [sup_o _ _ (by decide), Pt.o P (by decide) (by decide)]; exact dv_0 hv
    · rw [sup_o _ _ (by decide), Pt.o P (by decide) (by decide)]; exact dv_1 hv
    · rw [sup_s, Pt.i P]
    · rw [sup_o _ _ (by decide), Pt.o P (by decide) (by decide)]; exact hv 15 (by decide)
    · rw [sup_o _ _ (by omega), (sm _ gn).1 m hm, ← hv (3 + m) (by omega), pv_h hm]
    · rw [sup_o _ _ (by omega), (sm _ gn).2 m hm, ← hv (16 + m) (by omega), pv_w]
  · rw [K9.fI gx rfl (by decide) (by decide)] at hi
    rw [fk]
    have gk : G (fR D H 10 x 3) = 4 := hO.rol gx rfl (by decide) rfl
    have ne : fR D H 10 x 3 ≠ fR D H 10 x 1 := fun z => (d.2 0 1 (by decide) (by decide) (by decide)).1 z.symm
    exact fun k hk9 => (pv_eq (Pt.f P ne) (Pt.f P ne) (Pt.f P ne) (Pt.f P ne) (sm _ gk).1 (sm _ gk).2 hk9).trans (hk hi k hk9)
theorem CN.forget {x : Nat} {K : Sg} (h : CN D H x s K) (hO : Ok D G H) (gx : G x = 1) (K9 : Keep D G E H H1) (hz : (fI D H1 7 (fR D H 10 x 4) 2).toInt = 0) (eo : noO E = true := by decide +kernel) (ep : noP E = true := by decide +kernel) (e8 : (1, 8) ∉ E := by decide +kernel) : CI D H1 x s K := by
  obtain ⟨e0, o1, o2, o3, o4, o5, o6⟩ := noO_k eo
  obtain ⟨d, hv, hk⟩ := h
  refine ⟨d.keep hO gx K9 eo, fun k hk9 => ?_, fun j hj => ?_, fun hi k hk9 => ?_⟩
  · rw [K9.fR gx rfl (by decide) o1, pv_keep hO (hO.rol gx rfl (by decide) rfl) K9 ep hk9]
    exact hv k hk9
  · unfold pS at hj
    rw [K9.fR gx rfl (by decide) o4, hz] at hj
    exact absurd hj (by omega)
  · rw [K9.fI gx rfl (by decide) e8] at hi
    rw [K9.fR gx rfl (by decide) o3, pv_keep hO (hO.rol gx rfl (by decide) rfl) K9 ep hk9]
    exact hk hi k hk9
end CRs
