/-! the same numbers, the same fault in both; the parish's reader reads the tape into the draft -/
def RP6 (D : DD) (H : Heap) (x : Nat) : Prop := fR D H 6 (fR D H 10 x 6) 0 = fR D H 10 x 0 ∧ (fI D H 6 (fR D H 10 x 6) 1).toInt = 14 ∧ fR D H 6 (fR D H 10 x 6) 2 = fR D H 10 x 2
def WFq (D : DD) (H : Heap) (x mo : Nat) : Prop := (fI D H 10 x 9).toInt = (fI D H 11 mo 14).toInt ∧ (fI D H 10 x 8).toInt = (fI D H 11 mo 6).toInt
def VQ (D : DD) (H : Heap) (x mo : Nat) : Prop := (∃ V K : Sg, CI D H x V K ∧ MI D H mo V K ∧ PV V ∧ ((fI D H 11 mo 6).toInt = 1 → PV K)) ∧ WFq D H x mo ∧ RP6 D H x
section Vq
variable {D : DD} {G : Nat → Nat} {E : List (Nat × Nat)} {H H1 : Heap} {x mo o : Nat} {V K : Sg}
def no6 (E : List (Nat × Nat)) : Bool := decide ((1, 0) ∉ E) && decide ((1, 2) ∉ E) && decide ((1, 6) ∉ E) && decide ((20, 0) ∉ E) && decide ((20, 1) ∉ E) && decide ((20, 2) ∉ E)
theorem RP6.keep (h : RP6 D H x) (hO : Ok D G H) (gx : G x = 1) (K9 : KeepO D G E o H H1) (hE : no6 E = true) : RP6 D H1 x := by
  unfold no6 at hE
  simp only [Bool.and_eq_true, decide_eq_true_eq] at hE
  obtain ⟨⟨⟨⟨⟨h1, h2⟩, h3⟩, h4⟩, h5⟩, h6⟩ := hE
  have g2 : G (fR D H 10 x 6) = 20 := hO.rol gx rfl (by decide) rfl
  have e1 : fR D H1 10 x 0 = fR D H 10 x 0 := congrArg vR (K9.f (N := 10) gx rfl (by decide) h1 (by decide))
  have e2 : fR D H1 10 x 2 = fR D H 10 x 2 := congrArg vR (K9.f (N := 10) gx rfl (by decide) h2 (by decide))
  have e3 : fR D H1 10 x 6 = fR D H 10 x 6 := congrArg vR (K9.f (N := 10) gx rfl (by decide) h3 (by decide))
  have e4 : fR D H1 6 (fR D H 10 x 6) 0 = fR D H 6 (fR D H 10 x 6) 0 := congrArg vR (K9.f (N := 3) g2 rfl (by decide) h4 (by decide))
  have e5 : fI D H1 6 (fR D H 10 x 6) 1 = fI D H 6 (fR D H 10 x 6) 1 := congrArg vI (K9.f (N := 3) g2 rfl (by decide) h5 (by decide))
  have e6 : fR D H1 6 (fR D H 10 x 6) 2 = fR D H 6 (fR D H 10 x 6) 2 := congrArg vR (K9.f (N := 3) g2 rfl (by decide) h6 (by decide))
  unfold RP6
  rw [e3, e1, e2, e4, e5, e6]
  exact h
/-- one of the four numbers of WFq stays -/
theorem ko_x (K9 : KeepO D G E o H H1) (gx : G x = 1) {k : Nat} (hk : k < 10) (hE : (1, k) ∉ E) : (fI D H1 10 x k).toInt = (fI D H 10 x k).toInt := congrArg Int32.toInt (congrArg vI (K9.f (N := 10) gx rfl hk hE (by decide)))
theorem ko_m (K9 : KeepO D G E o H H1) (gm : G mo = 30) {k : Nat} (hk : k < 18) (hE : (30, k) ∉ E) : (fI D H1 11 mo k).toInt = (fI D H 11 mo k).toInt := congrArg Int32.toInt (congrArg vI (K9.f (N := 18) gm rfl hk hE (by decide)))
/-- both go back to the image, or none -/
theorem back_q (ci : CB D H x V K) (mi : MB D H mo V K) (hi : (fI D H 10 x 8).toInt = (fI D H 11 mo 6).toInt) (hr : 0 ≤ (fI D H 11 mo 6).toInt ∧ (fI D H 11 mo 6).toInt ≤ 1) (pv : PV V) (pk : (fI D H 11 mo 6).toInt = 1 → PV K) : ∃ V K : Sg, CI D H x V K ∧ MI D H mo V K ∧ PV V ∧ ((fI D H 11 mo 6).toInt = 1 → PV K) := by
  by_cases c : (fI D H 11 mo 6).toInt = 1
  · exact ⟨K, K, ci.1 (by omega), mi.1 c, pk c, pk⟩
  · exact ⟨V, K, ci.2 (by omega), mi.2 (by omega), pv, pk⟩
/-- both read the text of the parish -/
theorem par_q {T : Tx} {r t w f a : Int} {b : Int} {e : Nat} (pv : PV V) (pk : (fI D H1 11 mo 6).toInt = 1 → PV K)
    (h1 : (r = 0 ∧ (parF T V).1 = true ∧ V 2 < 12 ∧ a = V 2 + 1 ∧ w = -1 ∧ CI D H1 x (sup (parF T V).2.2 2 (V 2 + 1)) K) ∨ (r = 1 ∧ (parF T V).1 = false ∧ w = (((parF T V).2.1 : Nat) : Int) ∧ CI D H1 x V K) ∨ (r = 2 ∧ (parF T V).1 = true ∧ 12 ≤ V 2 ∧ w = -1 ∧ CI D H1 x V K))
    (h2 : (t = 0 ∧ (parF T V).1 = true ∧ V 2 ≠ 12 ∧ b = V 2 + 1 ∧ f = -1 ∧ MI D H1 mo (sup (parF T V).2.2 2 (V 2 + 1)) K) ∨ (t = 1 ∧ (parF T V).1 = false ∧ f = (((parF T V).2.1 : Nat) : Int) ∧ MI D H1 mo V K) ∨ (t = 2 ∧ (parF T V).1 = true ∧ V 2 = 12 ∧ f = -1 ∧ MI D H1 mo V K)) :
    (∃ V K : Sg, CI D H1 x V K ∧ MI D H1 mo V K ∧ PV V ∧ ((fI D H1 11 mo 6).toInt = 1 → PV K)) ∧ w = f ∧ r = t ∧ (r = 0 → a = b) := by
  have h12 := pv.2.2.2
  rcases h1 with ⟨a1, a2, a3, a4, a5, a6⟩ | ⟨a1, a2, a3, a4⟩ | ⟨a1, a2, a3, a4, a5⟩
  · rcases h2 with ⟨b1, b2, b3, b4, b5, b6⟩ | ⟨b1, b2, b3, b4⟩ | ⟨b1, b2, b3, b4, b5⟩
    · obtain ⟨⟨z1, z2, z3⟩, hz⟩ : ∃ z, z = parF T V := ⟨_, rfl⟩
      rw [← hz] at a2 a6 b6
      have a2 : z1 = true := a2
      subst a2
      have h9 := par_2 pv hz.symm
      refine ⟨⟨_, K, a6, b6, (h9.2).texts (by omega), pk⟩, by omega, by omega, fun _ => by omega⟩
    · exact absurd (a2.symm.trans b2) (by decide)
    · omega
  · rcases h2 with ⟨b1, b2, b3, b4, b5, b6⟩ | ⟨b1, b2, b3, b4⟩ | ⟨b1, b2, b3, b4, b5⟩
    · exact absurd (b2.symm.trans a2) (by decide)
    · exact ⟨⟨V, K, a4, b4, pv, pk⟩, by omega, by omega, fun h => by omega⟩
    · exact absurd (b2.symm.trans a2) (by decide)
  · rcases h2 with ⟨b1, b2, b3, b4, b5, b6⟩ | ⟨b1, b2, b3, b4⟩ | ⟨b1, b2, b3, b4, b5⟩
    · omega
    · exact absurd (a2.symm.trans b2) (by decide)
    · exact ⟨⟨V, K, a5, b5, pv, pk⟩, by omega, by omega, fun h => by omega⟩
theorem par_up {T : Tx} {r w a : Int} (h : (r = 0 ∧ (parF T V).1 = true ∧ V 2 < 12 ∧ a = V 2 + 1 ∧ w = -1 ∧ CI D H x (sup (parF T V).2.2 2 (V 2 + 1)) K) ∨ (r = 1 ∧ (parF T V).1 = false ∧ w = (((parF T V).2.1 : Nat) : Int) ∧ CI D H x V K) ∨ (r = 2 ∧ (parF T V).1 = true ∧ 12 ≤ V 2 ∧ w = -1 ∧ CI D H x V K)) (hc : ∀ Va Ka : Sg, CI D H x Va Ka → CI D H1 x Va Ka) : (r = 0 ∧ (parF T V).1 = true ∧ V 2 < 12 ∧ a = V 2 + 1 ∧ w = -1 ∧ CI D H1 x (sup (parF T V).2.2 2 (V 2 + 1)) K) ∨ (r = 1 ∧ (parF T V).1 = false ∧ w = (((parF T V).2.1 : Nat) : Int) ∧ CI D H1 x V K) ∨ (r = 2 ∧ (parF T V).1 = true ∧ 12 ≤ V 2 ∧ w = -1 ∧ CI D H1 x V K) := by
  rcases h with ⟨a1, a2, a3, a4, a5, a6⟩ | ⟨a1, a2, a3, a4⟩ | ⟨a1, a2, a3, a4, a5⟩
  · exact Or.inl ⟨a1, a2, a3, a4, a5, hc _ _ a6⟩
  · exact Or.inr (Or.inl ⟨a1, a2, a3, hc _ _ a4⟩)
  · exact Or.inr (Or.inr ⟨a1, a2, a3, a4, hc _ _ a5⟩)
theorem CB.keep (h : CB D H x V K) (hO : Ok D G H) (gx : G x = 1) (K9 : Keep D G E H H1) (hE : noC E = true) : CB D H1 x V K := by
  have e8 := (noC_k hE).2.2.2.2
  have e9 : (fI D H1 10 x 8).toInt = (fI D H 10 x 8).toInt := congrArg Int32.toInt (K9.fI gx rfl (by decide) e8)
  exact ⟨fun z => (h.1 (e9.symm.trans z)).keep hO gx K9 hE, fun z => (h.2 (e9.symm.trans z)).keep hO gx K9 hE⟩
/-- a law is told: nothing can be undone any more, or all is as it was -/
theorem CI.law (h : CI D H x V K) (hO : Ok D G H) (gx : G x = 1) (K9 : Keep D G E H H1) (hp : pS D H1 x = 0 ∨ pS D H1 x = pS D H x) (eo : noO E = true := by decide +kernel) (ep : noP E = true := by decide +kernel) (e1 : (16, 1) ∉ E := by decide +kernel) (e8 : (1, 8) ∉ E := by decide +kernel) : CI D H1 x V K := by
  obtain ⟨e0, o1, o2, o3, o4, o5, o6⟩ := noO_k eo
  obtain ⟨d, hv, ha, hk⟩ := h
  have en : pN D H1 x = pN D H x := by
    unfold pN
    rw [K9.fR gx rfl (by decide) o4, K9.fI (gPast hO gx) rfl (by decide) e1]
  refine ⟨d.keep hO gx K9 eo, fun k hk9 => ?_, fun j hj k hk9 => ?_, fun hi k hk9 => ?_⟩
  · rw [K9.fR gx rfl (by decide) o1, pv_keep hO (hO.rol gx rfl (by decide) rfl) K9 ep hk9]
    exact hv k hk9
  · rcases hp with hp | hp
    · rw [hp] at hj
      exact absurd hj (by omega)
    · rw [hp] at hj
      rw [en, st_keep hO gx K9 eo, pv_keep hO (st_role hO gx (by omega)) K9 ep hk9]
      exact ha j hj k hk9
  · rw [K9.fI gx rfl (by decide) e8] at hi
    rw [K9.fR gx rfl (by decide) o3, pv_keep hO (hO.rol gx rfl (by decide) rfl) K9 ep hk9]
    exact hk hi k hk9
theorem CI.lawO (h : CI D H x V K) (hO : Ok D G H) (gx : G x = 1) (h0 : G o = 0) (ho : o < H.size) (K9 : KeepO D G E o H H1) (hp : pS D H1 x = 0 ∨ pS D H1 x = pS D H x) (eo : noO ((99, 0) :: E) = true := by decide +kernel) (ep : noP ((99, 0) :: E) = true := by decide +kernel) (e1 : (16, 1) ∉ (99, 0) :: E := by decide +kernel) (e8 : (1, 8) ∉ (99, 0) :: E := by decide +kernel) : CI D H1 x V K := h.law (hO.k99 h0 ho) (g9_o gx h0 (by decide)) (K9.k9 h0) hp eo ep e1 e8
theorem MI.law (h : MI D H mo V K) (hO : Ok D G H) (gm : G mo = 30) (K9 : Keep D G E H H1) (hp : (fI D H1 11 mo 7).toInt = 0 ∨ (fI D H1 11 mo 7).toInt = (fI D H 11 mo 7).toInt) (e1 : (30, 1) ∉ E := by decide +kernel) (e2 : (31, 1) ∉ E := by decide +kernel) (e3 : (30, 5) ∉ E := by decide +kernel) (e4 : (35, 0) ∉ E := by decide +kernel) (e6 : (30, 2) ∉ E := by decide +kernel) (e7 : (32, 0) ∉ E := by decide +kernel) (e8 : (30, 6) ∉ E := by decide +kernel) : MI D H1 mo V K := by
  have g5 : G (fR D H 11 mo 5) = 35 := hO.rol gm rfl (by decide) rfl
  have g2 : G (fR D H 11 mo 2) = 32 := hO.rol gm rfl (by decide) rfl
  refine ⟨h.1.keep hO gm K9 e1 e2, fun r hr => ?_, fun hi => ?_⟩
  · exact fW.cell (K9.fR gm rfl (by decide) e3) (K9.c g5 rfl e4) (h.2.1 r (by omega))
  · rw [K9.fI gm rfl (by decide) e8] at hi
    exact fW.cell (K9.fR gm rfl (by decide) e6) (K9.c g2 rfl e7) (h.2.2 hi)
theorem law_w {z : Bool} {n e r w t a b c : Int} (h1 : (r = 0 ∧ z = true ∧ a = n ∧ w = -1) ∨ (r = 1 ∧ z = false ∧ w = e)) (h2 : (t = 0 ∧ z = true ∧ b = n ∧ c = -1) ∨ (t = 1 ∧ z = false ∧ c = e)) : w = c := by
  rcases h1 with h1 | h1 <;> rcases h2 with h2 | h2
  · omega
  · exact absurd (h1.2.1.symm.trans h2.2.1) (by decide)
  · exact absurd (h2.2.1.symm.trans h1.2.1) (by decide)
  · omega
end Vq
