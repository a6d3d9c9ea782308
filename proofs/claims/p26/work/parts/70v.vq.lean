/-! at the start: no house, no hearth, no text, a visit of 50 -/
def V0 : Sg := fun k => if k = 15 then 50 else 0
def paA (n i : Nat) : Nat := if i = 0 then n + 3 else if i = 1 then n + 57 else if i = 2 then n + 30 else n + 86 + 27 * (i - 3)
theorem psh_f {D : DD} {H : Heap} {a : Nat} (h : PSh D H a (a + 1)) : (∀ m, m < 12 → hsA D H a m = a + 15 + m) ∧ (∀ m, m < 6 → hoA D H a m = a + 9 + m) ∧ SV (pv D H a) V0 := by
  obtain ⟨p1, p2, p3, p4, p5, p6⟩ := h
  have f0 : fR D H 5 a 0 = a + 1 := by unfold fR; rw [show fV D H 5 a 0 = _ from ob_V p1 (by decide)]; rfl
  have f1 : fR D H 5 a 1 = a + 1 + 1 := by unfold fR; rw [show fV D H 5 a 1 = _ from ob_V p1 (by decide)]; rfl
  have hs : ∀ m, m < 12 → hsA D H a m = a + 15 + m := fun m hm => by
    unfold hsA
    rw [f1]
    unfold eR eV
    rw [p3]
    show vR ((arrV (D.2 4) 12 (fun j => .ref (a + 1 + 14 + j))).slots[m]?.getD .null) = _
    rw [arrV_read _ _ hm]
    show a + 1 + 14 + m = a + 15 + m
    omega
  have ho : ∀ m, m < 6 → hoA D H a m = a + 9 + m := fun m hm => by
    unfold hoA
    rw [f0]
    unfold eR eV
    rw [p2]
    show vR ((arrV (D.2 3) 6 (fun j => .ref (a + 1 + 8 + j))).slots[m]?.getD .null) = _
    rw [arrV_read _ _ hm]
    show a + 1 + 8 + m = a + 9 + m
    omega
  refine ⟨hs, ho, sv_k ?_ ?_ ?_ ?_ (fun m hm => ?_) (fun m hm => ?_)⟩
  · unfold fI; rw [show fV D H 5 a 3 = _ from ob_V p1 (by decide)]; (show (0 : Int32).toInt = 0); decide
  · unfold fI; rw [show fV D H 5 a 4 = _ from ob_V p1 (by decide)]; (show (0 : Int32).toInt = 0); decide
  · unfold fI; rw [show fV D H 5 a 5 = _ from ob_V p1 (by decide)]; (show (0 : Int32).toInt = 0); decide
  · unfold fI; rw [show fV D H 5 a 8 = _ from ob_V p1 (by decide)]; (show (50 : Int32).toInt = 50); decide
  · rw [hs m hm]
    unfold fI
    rw [show fV D H 1 (a + 15 + m) 0 = _ from ob_V (by have := p6 m hm; rw [show a + 1 + 14 + m = a + 15 + m by omega] at this; exact this) (by decide)]
    unfold V0
    rw [if_neg (by omega)]
    decide
  · rw [ho m hm]
    unfold fI
    rw [show fV D H 2 (a + 9 + m) 4 = _ from ob_V (by have := p5 m hm; rw [show a + 1 + 8 + m = a + 9 + m by omega] at this; exact this) (by decide)]
    unfold V0
    rw [if_neg (by omega)]
    decide
theorem PV_0 : PV V0 := by
  refine ⟨by decide, by decide, fun h => ?_, by decide⟩
  show ones 0 ≤ 6
  decide
theorem modF_v : ∀ k, k < 22 → (modF (vy k)).toInt = V0 k := by decide
theorem start_vq {D : DD} {H : Heap} {n : Nat} (hs : HSh D H n (n + 1)) (hm : MSh D H (n + 415) (n + 416)) : VQ D H n (n + 415) := by
  obtain ⟨s1, s2, s4, s5, s6, ⟨s7, s8, s9⟩, s10, s12, s13⟩ := hs
  obtain ⟨m1, m2, m3, m4, m5, m6, m7, -⟩ := hm
  have b0 : fR D H 10 n 0 = n + 1 := by unfold fR; rw [ob_V s1 (by decide)]; rfl
  have b1 : fR D H 10 n 1 = n + 3 := by unfold fR; rw [ob_V s1 (by decide)]; rfl
  have b2 : fR D H 10 n 2 = n + 30 := by unfold fR; rw [ob_V s1 (by decide)]; rfl
  have b3 : fR D H 10 n 3 = n + 57 := by unfold fR; rw [ob_V s1 (by decide)]; rfl
  have b4 : fR D H 10 n 4 = n + 84 := by unfold fR; rw [ob_V s1 (by decide)]; rfl
  have b6 : fR D H 10 n 6 = n + 412 := by unfold fR; rw [ob_V s1 (by decide)]; rfl
  have b8 : fI D H 10 n 8 = 0 := by unfold fI; rw [ob_V s1 (by decide)]; rfl
  have b9 : fI D H 10 n 9 = -1 := by unfold fI; rw [ob_V s1 (by decide)]; rfl
  have p0 : fR D H 7 (n + 84) 0 = n + 85 := by unfold fR; rw [show fV D H 7 (n + 84) 0 = _ from ob_V s7 (by decide)]; rfl
  have p2 : fI D H 7 (n + 84) 2 = 0 := by unfold fI; rw [show fV D H 7 (n + 84) 2 = _ from ob_V s7 (by decide)]; rfl
  have st9 : ∀ j, j < 12 → stP D H n j = n + 86 + 27 * j := fun j hj => by
    unfold stP
    rw [b4, p0]
    unfold eR eV
    rw [show H[n + 85]? = _ from s8]
    show vR ((arrV (D.2 5) 12 (fun j => .ref (n + 1 + 84 + 1 + 27 * j))).slots[j]?.getD .null) = _
    rw [arrV_read _ _ hj]
    show n + 1 + 84 + 1 + 27 * j = n + 86 + 27 * j
    omega
  have oba : ∀ i, i < 15 → ob D H n i = paA n i := fun i hi => by
    unfold ob paA
    rw [b1, b2, b3]
    by_cases c0 : i = 0
    · rw [if_pos c0, if_pos c0]
    rw [if_neg c0, if_neg c0]
    by_cases c1 : i = 1
    · rw [if_pos c1, if_pos c1]
    rw [if_neg c1, if_neg c1]
    by_cases c2 : i = 2
    · rw [if_pos c2, if_pos c2]
    rw [if_neg c2, if_neg c2]
    exact st9 _ (by omega)
  have psh : ∀ i, i < 15 → PSh D H (paA n i) (paA n i + 1) := fun i hi => by
    unfold paA
    by_cases c0 : i = 0
    · rw [if_pos c0]; exact s4
    rw [if_neg c0]
    by_cases c1 : i = 1
    · rw [if_pos c1]; exact s6
    rw [if_neg c1]
    by_cases c2 : i = 2
    · rw [if_pos c2]; exact s5
    rw [if_neg c2]
    have := s9 (i - 3) (by omega)
    rw [show n + 1 + 84 + 1 + 27 * (i - 3) = n + 86 + 27 * (i - 3) by omega, show n + 1 + 84 + 2 + 27 * (i - 3) = n + 86 + 27 * (i - 3) + 1 by omega] at this
    exact this
  have far : ∀ i j, i < 15 → j < 15 → i ≠ j → paA n i + 27 ≤ paA n j ∨ paA n j + 27 ≤ paA n i := by
    intro i j hi hj hij
    unfold paA
    repeat' split
    all_goals omega
  have k0 : (0 : Int32).toInt = 0 := by decide
  refine ⟨⟨V0, V0, ⟨⟨fun i hi => ?_, fun i j hi hj hij => ?_⟩, ?_, fun j hj => ?_, fun h => ?_⟩, ⟨fun k hk => ?_, fun r hr => ?_, fun h => ?_⟩, PV_0, fun _ => PV_0⟩, ⟨?_, ?_⟩, ?_⟩
  · rw [oba i hi]
    have h9 := psh_f (psh i hi)
    refine ⟨fun m k hm hk e => ?_, fun m k hm hk e => ?_⟩
    · rw [h9.1 m hm, h9.1 k hk] at e; omega
    · rw [h9.2.1 m hm, h9.2.1 k hk] at e; omega
  · rw [oba i hi, oba j hj]
    have h8 := psh_f (psh i hi)
    have h9 := psh_f (psh j hj)
    have f9 := far i j hi hj hij
    refine ⟨by omega, fun m k hm hk => ?_, fun m k hm hk => ?_⟩
    · rw [h9.1 m hm, h8.1 k hk]; omega
    · rw [h9.2.1 m hm, h8.2.1 k hk]; omega
  · rw [b1]; exact (psh_f s4).2.2
  · unfold pS at hj
    rw [b4, p2, k0] at hj
    exact absurd hj (by omega)
  · rw [b8, k0] at h
    exact absurd h (by decide)
  · show (eI H (fR D H 11 (n + 415) 1) (0 + vy k)).toInt = V0 k
    have w0 : fR D H 11 (n + 415) 1 = n + 416 := by unfold fR; rw [show fV D H 11 (n + 415) 1 = _ from ob_V m1 (by decide)]; rfl
    have := vy_lt hk
    rw [w0, Nat.zero_add, (arr_eI m2 (by omega)).2]
    exact modF_v k hk
  · have w7 : fI D H 11 (n + 415) 7 = 0 := by unfold fI; rw [show fV D H 11 (n + 415) 7 = _ from ob_V m1 (by decide)]; rfl
    rw [w7, k0] at hr
    exact absurd hr (by omega)
  · have w6 : fI D H 11 (n + 415) 6 = 0 := by unfold fI; rw [show fV D H 11 (n + 415) 6 = _ from ob_V m1 (by decide)]; rfl
    rw [w6, k0] at h
    exact absurd h (by decide)
  · have w14 : fI D H 11 (n + 415) 14 = -1 := by unfold fI; rw [show fV D H 11 (n + 415) 14 = _ from ob_V m1 (by decide)]; rfl
    rw [b9, w14]
  · have w6 : fI D H 11 (n + 415) 6 = 0 := by unfold fI; rw [show fV D H 11 (n + 415) 6 = _ from ob_V m1 (by decide)]; rfl
    rw [b8, w6]
  · unfold RP6
    have r0 : fR D H 6 (n + 412) 0 = n + 1 := by unfold fR; rw [show fV D H 6 (n + 412) 0 = _ from ob_V s12 (by decide)]; rfl
    have r1 : fI D H 6 (n + 412) 1 = 14 := by unfold fI; rw [show fV D H 6 (n + 412) 1 = _ from ob_V s12 (by decide)]; rfl
    have r2 : fR D H 6 (n + 412) 2 = n + 30 := by unfold fR; rw [show fV D H 6 (n + 412) 2 = _ from ob_V s12 (by decide)]; rfl
    rw [b6, b0, b2, r0, r1, r2]
    exact ⟨rfl, by decide, rfl⟩
