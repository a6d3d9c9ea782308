theorem ln_up {v x : Int32} {n : Int} (h : v = x + 1) (h2 : x.toInt = n) (h3 : 0 ≤ n ∧ n ≤ 100) : v.toInt = n + 1 := by
  have k1 : (1 : Int32).toInt = 1 := by decide
  rw [h, i_add (by omega) (by omega)]
  omega
