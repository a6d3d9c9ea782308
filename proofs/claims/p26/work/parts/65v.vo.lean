/-- out[] plays the role of nobody that may be written -/
def g9 (G : Nat → Nat) (o : Nat) : Nat → Nat := fun q => if q = o then 99 else G q
section Vo
variable {D : DD} {G : Nat → Nat} {E : List (Nat × Nat)} {H H1 : Heap} {x mo o : Nat} {V K : Sg}
theorem g9_o {q r : Nat} (h : G q = r) (h0 : G o = 0) (hr : r ≠ 0) : g9 G o q = r := by
  unfold g9
  rw [if_neg (fun z => hr (by rw [← h, z]; exact h0))]
  exact h
theorem Ok.k99 (hO : Ok D G H) (h0 : G o = 0) (ho : o < H.size) : Ok D (g9 G o) H := by
  refine hO.ext (fun q h1 _ => g9_o rfl h0 h1) (fun a r ha hr hr0 => ?_)
  by_cases z : a = o
  · subst z
    have e9 : 99 = r := by rw [← hr]; unfold g9; rw [if_pos rfl]
    subst e9
    exact cok99 ho
  · have e9 : G a = r := by rw [← hr]; unfold g9; rw [if_neg z]
    rcases ha with ha | ha
    · exact absurd (e9.symm.trans ha) hr0
    · have : r = 99 := e9.symm.trans ha
      subst this
      exact cok99 (hO.lt (by rw [ha]; decide))
theorem KeepO.k9 (K9 : KeepO D G E o H H1) (h0 : G o = 0) : Keep D (g9 G o) ((99, 0) :: E) H H1 := by
  refine ⟨K9.1, fun q hq h => ?_, fun q r hq hr => ?_⟩
  · have hqo : q ≠ o := fun z => by
      subst z
      unfold g9 at h
      rw [if_pos rfl] at h
      exact absurd h (by decide)
    unfold g9 at h
    rw [if_neg hqo] at h
    exact K9.2.1 q hq h hqo
  · by_cases z : q = o
    · subst z
      have e9 : 99 = r := by rw [← hq]; unfold g9; rw [if_pos rfl]
      subst e9
      exact ⟨fun ci N h9 => (by cases h9), fun _ h8 => absurd List.mem_cons_self h8, fun h31 => absurd h31 (by decide)⟩
    · have e9 : G q = r := by rw [← hq]; unfold g9; rw [if_neg z]
      obtain ⟨k1, k2, k3⟩ := K9.2.2 q r e9 hr
      exact ⟨fun ci N h9 k hk h8 => k1 ci N h9 k hk (fun y => h8 (List.mem_cons_of_mem _ y)), fun h9 h8 => k2 h9 (fun y => h8 (List.mem_cons_of_mem _ y)), fun h9 h8 => k3 h9 (fun y => h8 (List.mem_cons_of_mem _ y))⟩
theorem CI.keepO (h : CI D H x V K) (hO : Ok D G H) (gx : G x = 1) (h0 : G o = 0) (ho : o < H.size) (K9 : KeepO D G E o H H1) (hE : noC ((99, 0) :: E) = true := by decide +kernel) : CI D H1 x V K := h.keep (hO.k99 h0 ho) (g9_o gx h0 (by decide)) (K9.k9 h0) hE
theorem MI.keepO (h : MI D H mo V K) (hO : Ok D G H) (gm : G mo = 30) (h0 : G o = 0) (ho : o < H.size) (K9 : KeepO D G E o H H1) (hE : noI ((99, 0) :: E) = true := by decide +kernel) : MI D H1 mo V K := h.keep (hO.k99 h0 ho) (g9_o gm h0 (by decide)) (K9.k9 h0) hE
theorem keep_o (e3 : ∀ q : Nat, q ≠ o → H1[q]? = H[q]?) (hla : LA D H1 o) (h0 : G o = 0) : KeepO D G [] o H H1 := by
  refine ⟨?_, fun q _ _ hq => e3 q hq, fun q r hq hr => ?_⟩
  · refine Nat.le_of_not_lt (fun z => ?_)
    obtain ⟨f, hf⟩ := hla
    have olt := (Array.getElem?_eq_some_iff.mp hf).1
    have e9 := e3 H1.size (by omega)
    rw [Array.getElem?_eq_none_iff.mpr (Nat.le_refl _)] at e9
    have := Array.getElem?_eq_none_iff.mp e9.symm
    omega
  · have hqo : q ≠ o := fun z => hr (by rw [← hq, z]; exact h0)
    exact ⟨fun ci N _ k _ _ => fV_of (e3 q hqo) _ _, fun _ _ => e3 q hqo, fun _ _ k _ => congrArg vI (eV_of (e3 q hqo) _)⟩
/-- out[0] is written: nothing else -/
theorem CI.out (h : CI D H x V K) (hO : Ok D G H) (gx : G x = 1) (h0 : G o = 0) (hl0 : LA D H o) (e3 : ∀ q : Nat, q ≠ o → H1[q]? = H[q]?) (hla : LA D H1 o) : CI D H1 x V K := by
  obtain ⟨f, hf⟩ := hl0
  exact h.keepO hO gx h0 (Array.getElem?_eq_some_iff.mp hf).1 (keep_o e3 hla h0) (by decide)
theorem LA.lt (h : LA D H o) : o < H.size := by
  obtain ⟨f, hf⟩ := h
  exact (Array.getElem?_eq_some_iff.mp hf).1
theorem pS_o (hO : Ok D G H) (gx : G x = 1) (e3 : ∀ q : Nat, q ≠ o → H1[q]? = H[q]?) (h0 : G o = 0) : pS D H1 x = pS D H x := by
  have n1 : x ≠ o := fun z => by rw [z, h0] at gx; exact absurd gx (by decide)
  have gp := gPast hO gx
  have n2 : fR D H 10 x 4 ≠ o := fun z => by rw [z, h0] at gp; exact absurd gp (by decide)
  unfold pS
  rw [show fR D H1 10 x 4 = fR D H 10 x 4 from congrArg vR (fV_of (e3 x n1) 10 4), show fI D H1 7 (fR D H 10 x 4) 2 = fI D H 7 (fR D H 10 x 4) 2 from congrArg vI (fV_of (e3 _ n2) 7 2)]
end Vo
