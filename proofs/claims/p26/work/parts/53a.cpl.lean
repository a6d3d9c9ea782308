/-- a copy within the world that leaves its first 354 numbers alone -/
theorem Cp.donel {D : DD} {G : Nat → Nat} {E : List (Nat × Nat)} {H0 B H : Heap} {L L0 : List Loc} {d n : Nat} {fd fs : Nat → Int32} {od os k : Nat} (S : Sd D G E H0 B L0) (h : Cp D G B H L d n fd fs od os k) (hd : G d = 31) (hr : ri 31 = some 0) (h0 : (31 : Nat) ≠ 0) (hE : (31, 0) ∈ E) (hn : n < 2147483648) (hok : aok 31 n (mix fd fs od os k)) (hod : 354 ≤ od) (hB : B[d]? = some (arrCell (D.2 0) n fd)) : Sd D G E H0 H L := by
  have S2 : Sd D G ((31, 1) :: E) H0 B L0 := ⟨S.1, S.2.1.mono (fun x hx => List.mem_cons_of_mem _ hx), S.2.2⟩
  have S3 := Cp.done (r := 31) S2 h hd hr h0 (List.mem_cons_of_mem _ hE) hn hok (hs := fun _ => Or.inl List.mem_cons_self)
  refine ⟨S3.1, ⟨S3.2.1.1, S3.2.1.2.1, fun q r hq hr9 => ?_⟩, S3.2.2⟩
  obtain ⟨k1, k2, -⟩ := S3.2.1.2.2 q r hq hr9
  refine ⟨fun ci N h9 j hj hE9 => k1 ci N h9 j hj (fun z => ?_), fun h9 hE9 => k2 h9 (fun z => ?_), fun h31 hE9 k9 hk9 => ?_⟩
  · rcases List.mem_cons.mp z with z | z
    · rw [(Prod.mk.inj z).1] at h9
      cases h9
    · exact hE9 z
  · rcases List.mem_cons.mp z with z | z
    · exact absurd (Prod.mk.inj z).2 (by decide)
    · exact hE9 z
  · have e1 := (S.2.1.2.2 q r hq hr9).2.2 h31 hE9 k9 hk9
    have hv := vy_lt hk9
    rw [← e1]
    by_cases zz : q = d
    · subst zz
      have hn2 : n = 2052 := hok.1
      have hlt : vy k9 < n := by omega
      rw [(arr_eI h.1 hlt).2, (arr_eI hB hlt).2]
      unfold mix
      rw [if_neg (by omega)]
    · exact congrArg vI (eV_of (h.2.1 q zz) _)
