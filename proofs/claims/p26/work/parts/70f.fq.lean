/-! at the start both tapes are zeros, and the law's reader reads the tape -/
theorem start_fq {D : DD} {H : Heap} {n : Nat} (hs : HSh D H n (n + 1)) (hm : MSh D H (n + 415) (n + 416)) : BQ D H n (n + 415) ∧ RQ D H n := by
  obtain ⟨s1, ⟨s2, s3⟩, s4, s5, s6, s7, s8, s9, s10, s11⟩ := hs
  obtain ⟨m1, m2, m3, m4, m5, m6, m7, -⟩ := hm
  have b0 : fR D H 10 n 0 = n + 1 := by unfold fR; rw [ob_V s1 (by decide)]; rfl
  have b7 : fR D H 10 n 7 = n + 413 := by unfold fR; rw [ob_V s1 (by decide)]; rfl
  have t0 : fR D H 9 (n + 1) 0 = n + 2 := by unfold fR; rw [show fV D H 9 (n + 1) 0 = _ from ob_V s2 (by decide)]; rfl
  have m8 : fR D H 11 (n + 415) 8 = n + 421 := by unfold fR; rw [show fV D H 11 (n + 415) 8 = _ from ob_V m1 (by decide)]; rfl
  have l0 : fR D H 4 (n + 413) 0 = n + 1 := by unfold fR; rw [show fV D H 4 (n + 413) 0 = _ from ob_V s10 (by decide)]; rfl
  have l1 : fI D H 4 (n + 413) 1 = 12 := by unfold fI; rw [show fV D H 4 (n + 413) 1 = _ from ob_V s10 (by decide)]; rfl
  refine ⟨fun i => ?_, ?_⟩
  · rw [b0, t0, m8]
    have z1 : eI H (n + 2) i = 0 := by
      by_cases c : i < 400
      · exact (arr_eI s3 c).2
      · exact eI_ge (by rw [show aN H (n + 2) = 400 from arr_aN s3]; omega)
    have z2 : eI H (n + 421) i = 0 := by
      by_cases c : i < 400
      · exact (arr_eI m7 c).2
      · exact eI_ge (by rw [show aN H (n + 421) = 400 from arr_aN m7]; omega)
    rw [z1, z2]
  · unfold RQ
    rw [b7, b0, l0, l1]
    exact ⟨rfl, by decide⟩
