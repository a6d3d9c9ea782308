/-! at the start neither has an image -/
theorem start_tq {D : DD} {H : Heap} {n : Nat} (hs : HSh D H n (n + 1)) (hm : MSh D H (n + 415) (n + 416)) : (fI D H 10 n 8).toInt = (fI D H 11 (n + 415) 6).toInt := by
  have e1 : fV D H 10 n 8 = .int 0 := ob_V hs.1 (by decide)
  have e2 : fV D H 11 (n + 415) 6 = .int 0 := ob_V hm.1 (by decide)
  unfold fI
  rw [e1, e2]
