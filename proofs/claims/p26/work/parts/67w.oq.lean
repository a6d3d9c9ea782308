/-- odds: class and reference reckon the same number out of the same numbers -/
theorem odds_n {D : DD} {H H1 : Heap} {x mo : Nat} {V K : Sg} {n : Nat} (ci : CI D H x V K) (mi : MI D H1 mo V K) (hn : n < 6) : fI D H 5 (fR D H 10 x 1) 8 * 100 + (100 - fI D H 5 (fR D H 10 x 1) 8) * fI D H 2 (hoA D H (fR D H 10 x 1) n) 4 = 100 * eI H1 (fR D H1 11 mo 1) 7 + (100 - eI H1 (fR D H1 11 mo 1) 7) * eI H1 (fR D H1 11 mo 1) (12 + 5 * n + 4) := by
  have c15 : (fI D H 5 (fR D H 10 x 1) 8).toInt = V 15 := ci.2.1 15 (by decide)
  have m15 : (eI H1 (fR D H1 11 mo 1) 7).toInt = V 15 := mi.1 15 (by decide)
  have cw : (fI D H 2 (hoA D H (fR D H 10 x 1) n) 4).toInt = V (16 + n) := by
    have h := ci.2.1 (16 + n) (by omega)
    rw [pv_w] at h
    exact h
  have mw : (eI H1 (fR D H1 11 mo 1) (12 + 5 * n + 4)).toInt = V (16 + n) := by
    have h := mi.1 (16 + n) (by omega)
    unfold fW at h
    rw [vy_w] at h
    rw [show 12 + 5 * n + 4 = 0 + (16 + 5 * n) by omega]
    exact h
  rw [Int32.toInt_inj.mp (c15.trans m15.symm), Int32.toInt_inj.mp (cw.trans mw.symm), Int32.mul_comm _ 100]
theorem odds_q {D : DD} {H H1 : Heap} {x mo : Nat} {V K : Sg} {r t : Int} {v r2 : Int32} {a b : Int64} (ci : CI D H x V K) (mi : MI D H1 mo V K) (pv : PV V) (eo : b = a)
    (h1 : (r = 0 ∧ (0 ≤ v.toInt ∧ v.toInt < (fI D H 5 (fR D H 10 x 1) 3).toInt) ∧ a = (fI D H 5 (fR D H 10 x 1) 8 * 100 + (100 - fI D H 5 (fR D H 10 x 1) 8) * fI D H 2 (hoA D H (fR D H 10 x 1) v.toInt.toNat) 4).toInt64) ∨ (r = 1 ∧ (v.toInt < 0 ∨ (fI D H 5 (fR D H 10 x 1) 3).toInt ≤ v.toInt)))
    (h2 : (t = 0 ∧ 0 ≤ v.toInt ∧ v.toInt < (eI H1 (fR D H1 11 mo 1) 0).toInt ∧ r2 = 100 * eI H1 (fR D H1 11 mo 1) 7 + (100 - eI H1 (fR D H1 11 mo 1) 7) * eI H1 (fR D H1 11 mo 1) (12 + 5 * v.toInt.toNat + 4)) ∨ (t = 1 ∧ (v.toInt < 0 ∨ (eI H1 (fR D H1 11 mo 1) 0).toInt ≤ v.toInt))) : r = t ∧ (r = 0 → b.toInt = r2.toInt) := by
  have c0 := dv_0 ci.2.1
  have m0 := mv_0 mi.1
  have p0 := pv.1
  rcases h1 with ⟨a1, ⟨a2, a3⟩, a4⟩ | ⟨a1, a2⟩
  · rcases h2 with ⟨b1, b2, b3, b4⟩ | ⟨b1, b2⟩
    · refine ⟨by omega, fun _ => ?_⟩
      rw [eo, a4, Int32.toInt_toInt64, b4, odds_n ci mi (by omega)]
    · exact absurd b2 (by omega)
  · rcases h2 with ⟨b1, b2, b3, b4⟩ | ⟨b1, b2⟩
    · exact absurd a2 (by omega)
    · exact ⟨by omega, fun h => by omega⟩
