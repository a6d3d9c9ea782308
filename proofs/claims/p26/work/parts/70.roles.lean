/-! what the constructors laid down plays its roles -/
def prole (d : Bool) (j : Nat) : Nat := if j = 0 then 5 else if j = 1 then (if d then 24 else 6) else if j = 2 then 9 else if j = 3 then 10 else if j < 8 then 11 else if j < 14 then 7 else (if d then 25 else 8)
def rol (k : Nat) : Nat := if k = 0 then 1 else if k = 1 then 2 else if k = 2 then 3 else if k = 3 then 4 else if k < 30 then prole false (k - 4) else if k = 30 then 23 else if k < 57 then prole true (k - 31) else if k = 57 then 4 else if k < 84 then prole false (k - 58) else if k = 84 then 16 else if k = 85 then 17 else if k < 410 then (if (k - 86) % 27 = 0 then 4 else prole false ((k - 86) % 27 - 1)) else if k = 410 then 18 else if k = 411 then 19 else if k = 412 then 20 else if k = 413 then 21 else if k = 414 then 22 else if k = 415 then 30 else if k < 424 then k - 416 + 31 else 0
theorem cok_r {D : DD} {G : Nat → Nat} {H : Heap} {a r n t q : Nat} {g : Nat → Nat} (hr : rr r = some (t, n, q)) (h1 : H[a]? = some (arrV (D.2 t) n (fun j => .ref (g j)))) (h2 : ∀ i, i < n → G (g i) = q) : cok D G H a r := by
  refine ⟨fun ci N h9 => (ro_rr h9 hr).elim, fun t' h9 => (ri_rr h9 hr).elim, fun t' n' q' h9 => ?_, (Array.getElem?_eq_some_iff.mp h1).1⟩
  have h8 := hr.symm.trans h9
  simp only [Option.some.injEq, Prod.mk.injEq] at h8
  obtain ⟨rfl, rfl, rfl⟩ := h8
  exact ⟨g, h1, h2⟩
theorem vok_q2 {G : Nat → Nat} {r k q1 q2 a : Nat} {x y : Int} (ht : ft r k = (1, q1, q2, x, y)) (ha : G a = q1) : vok G (ft r k) (.ref a) := by
  rw [ht]
  exact ⟨fun h => absurd h (by simp), fun _ => ⟨a, rfl, Or.inl ha⟩, fun h => absurd h (by simp)⟩
theorem vok_0 {G : Nat → Nat} {r k : Nat} {lo hi : Int} (x : Int32) (ht : ft r k = (0, 0, 0, lo, hi)) (h1 : lo ≤ x.toInt ∧ x.toInt ≤ hi) : vok G (ft r k) (.int x) := vok_i ht h1.1 h1.2
theorem par_ok {D : DD} {G : Nat → Nat} {H : Heap} {a n : Nat} (d : Bool) (hp : PSh D H a n) (ga : G a = if d then 23 else 4) (hg : ∀ j, j < 26 → G (n + j) = prole d j) (q : Nat) (hq : q = a ∨ (n ≤ q ∧ q < n + 26)) : cok D G H q (G q) := by
  obtain ⟨p1, p2, p3, ⟨p4, p5, p6⟩, p7, p8⟩ := hp
  have g0 : G n = 5 := hg 0 (by omega)
  have g1 : G (n + 1) = if d then 24 else 6 := by rw [hg 1 (by omega)]; rfl
  have g2 : G (n + 2) = 9 := by rw [hg 2 (by omega)]; rfl
  have g3 : G (n + 3) = 10 := by rw [hg 3 (by omega)]; rfl
  have g4 : ∀ j, j < 4 → G (n + 3 + 1 + j) = 11 := fun j hj => by
    rw [show n + 3 + 1 + j = n + (4 + j) by omega, hg (4 + j) (by omega)]
    unfold prole
    rw [if_neg (by omega), if_neg (by omega), if_neg (by omega), if_neg (by omega), if_pos (by omega)]
  have g8 : ∀ j, j < 6 → G (n + 8 + j) = 7 := fun j hj => by
    rw [show n + 8 + j = n + (8 + j) by omega, hg (8 + j) (by omega)]
    unfold prole
    rw [if_neg (by omega), if_neg (by omega), if_neg (by omega), if_neg (by omega), if_neg (by omega), if_pos (by omega)]
  have g14 : ∀ j, j < 12 → G (n + 14 + j) = if d then 25 else 8 := fun j hj => by
    rw [show n + 14 + j = n + (14 + j) by omega, hg (14 + j) (by omega)]
    unfold prole
    rw [if_neg (by omega), if_neg (by omega), if_neg (by omega), if_neg (by omega), if_neg (by omega), if_neg (by omega)]
  rcases hq with rfl | ⟨h1, h2⟩
  · rw [ga]
    cases d with
    | false => exact cok_o (r := 4) rfl p1 (fun k hk => match k, hk with | 0, _ => vok_q (r := 4) (k := 0) rfl g0 | 1, _ => vok_q (r := 4) (k := 1) rfl g1 | 2, _ => vok_q (r := 4) (k := 2) rfl g2 | 3, _ => vok_0 (r := 4) (k := 3) 0 rfl (by decide) | 4, _ => vok_0 (r := 4) (k := 4) 0 rfl (by decide) | 5, _ => vok_a (r := 4) (k := 5) rfl | 6, _ => vok_a (r := 4) (k := 6) rfl | 7, _ => vok_a (r := 4) (k := 7) rfl | 8, _ => vok_a (r := 4) (k := 8) rfl | 9, _ => vok_a (r := 4) (k := 9) rfl | 10, _ => vok_a (r := 4) (k := 10) rfl | 11, _ => vok_a (r := 4) (k := 11) rfl | 12, _ => vok_a (r := 4) (k := 12) rfl | 13, _ => vok_n (r := 4) (k := 13) rfl | k + 14, hk => absurd hk (by omega))
    | true => exact cok_o (r := 23) rfl p1 (fun k hk => match k, hk with | 0, _ => vok_q (r := 23) (k := 0) rfl g0 | 1, _ => vok_q (r := 23) (k := 1) rfl g1 | 2, _ => vok_q (r := 23) (k := 2) rfl g2 | 3, _ => vok_0 (r := 23) (k := 3) 0 rfl (by decide) | 4, _ => vok_0 (r := 23) (k := 4) 0 rfl (by decide) | 5, _ => vok_a (r := 23) (k := 5) rfl | 6, _ => vok_a (r := 23) (k := 6) rfl | 7, _ => vok_a (r := 23) (k := 7) rfl | 8, _ => vok_a (r := 23) (k := 8) rfl | 9, _ => vok_a (r := 23) (k := 9) rfl | 10, _ => vok_a (r := 23) (k := 10) rfl | 11, _ => vok_a (r := 23) (k := 11) rfl | 12, _ => vok_a (r := 23) (k := 12) rfl | 13, _ => vok_n (r := 23) (k := 13) rfl | k + 14, hk => absurd hk (by omega))
  · by_cases c0 : q = n
    · subst c0; rw [g0]; exact cok_r (r := 5) rfl p2 g8
    by_cases c1 : q = n + 1
    · subst c1; rw [g1]
      cases d with
      | false => exact cok_r (r := 6) rfl p3 g14
      | true => exact cok_r (r := 24) rfl p3 g14
    by_cases c2 : q = n + 2
    · subst c2; rw [g2]
      exact cok_o (r := 9) rfl p4 (fun k hk => match k, hk with | 0, _ => vok_q (r := 9) (k := 0) rfl g3 | 1, _ => vok_0 (r := 9) (k := 1) 0 rfl (by decide) | 2, _ => vok_0 (r := 9) (k := 2) 0 rfl (by decide) | k + 3, hk => absurd hk (by omega))
    by_cases c3 : q = n + 3
    · subst c3; rw [g3]; exact cok_r (r := 10) rfl p5 g4
    by_cases c4 : q < n + 8
    · obtain ⟨j, rfl⟩ : ∃ j, q = n + 3 + 1 + j := ⟨q - (n + 4), by omega⟩
      rw [g4 j (by omega)]
      exact cok_i (r := 11) rfl (p6 j (by omega)) (by decide) rfl
    by_cases c5 : q < n + 14
    · obtain ⟨j, rfl⟩ : ∃ j, q = n + 8 + j := ⟨q - (n + 8), by omega⟩
      rw [g8 j (by omega)]
      exact cok_o (r := 7) rfl (p7 j (by omega)) (fun k hk => match k, hk with | 0, _ => vok_a (r := 7) (k := 0) rfl | 1, _ => vok_0 (r := 7) (k := 1) 0 rfl (by decide) | 2, _ => vok_a (r := 7) (k := 2) rfl | 3, _ => vok_a (r := 7) (k := 3) rfl | 4, _ => vok_a (r := 7) (k := 4) rfl | k + 5, hk => absurd hk (by omega))
    · obtain ⟨j, rfl⟩ : ∃ j, q = n + 14 + j := ⟨q - (n + 14), by omega⟩
      rw [g14 j (by omega)]
      cases d with
      | false => exact cok_o (r := 8) rfl (p8 j (by omega)) (fun k hk => match k, hk with | 0, _ => vok_0 (r := 8) (k := 0) 0 rfl (by decide) | 1, _ => vok_a (r := 8) (k := 1) rfl | 2, _ => vok_a (r := 8) (k := 2) rfl | 3, _ => vok_a (r := 8) (k := 3) rfl | 4, _ => vok_a (r := 8) (k := 4) rfl | 5, _ => vok_a (r := 8) (k := 5) rfl | k + 6, hk => absurd hk (by omega))
      | true => exact cok_o (r := 25) rfl (p8 j (by omega)) (fun k hk => match k, hk with | 0, _ => vok_0 (r := 25) (k := 0) 0 rfl (by decide) | 1, _ => vok_a (r := 25) (k := 1) rfl | 2, _ => vok_a (r := 25) (k := 2) rfl | 3, _ => vok_a (r := 25) (k := 3) rfl | 4, _ => vok_a (r := 25) (k := 4) rfl | 5, _ => vok_a (r := 25) (k := 5) rfl | k + 6, hk => absurd hk (by omega))
theorem rol_now : ∀ j, j < 26 → rol (4 + j) = prole false j := by decide
theorem rol_dft : ∀ j, j < 26 → rol (31 + j) = prole true j := by decide
theorem rol_kep : ∀ j, j < 26 → rol (58 + j) = prole false j := by decide
theorem rol_pst : ∀ t, t < 12 → rol (86 + 27 * t) = 4 := by decide
theorem rol_psc : ∀ t, t < 12 → ∀ j, j < 26 → rol (87 + 27 * t + j) = prole false j := by decide +kernel
theorem rol_25 : ∀ k, k < 424 → rol k = 25 → 45 ≤ k ∧ k < 57 := by decide +kernel
theorem rol_hi {k : Nat} (h : 424 ≤ k) : rol k = 0 := by
  unfold rol
  simp (disch := omega) only [if_neg]
theorem wl_zero : WOKl (fun _ => 0) := by
  have k0 : (0 : Int32).toInt = 0 := by decide
  unfold WOKl
  refine ⟨⟨by rw [k0]; exact Int.le_refl _, by rw [k0]; decide⟩, ⟨by rw [k0]; exact Int.le_refl _, by rw [k0]; decide⟩, ⟨by rw [k0]; exact Int.le_refl _, by rw [k0]; decide⟩, fun j _ => ⟨by rw [k0]; exact Int.le_refl _, by rw [k0]; decide⟩⟩
theorem lk_zero : LOK (fun _ => 0) := by
  have k0 : (0 : Int32).toInt = 0 := by decide
  unfold LOK
  refine ⟨⟨by rw [k0]; exact Int.le_refl _, by rw [k0]; decide⟩, fun n hn => ?_⟩
  rw [k0] at hn
  omega
theorem mod_ok : aok 31 2052 modF := by
  have k0 : (0 : Int32).toInt = 0 := by decide
  have h42 : ∀ j, j < 12 → modF (42 + 6 * j) = 0 := by decide
  refine ⟨rfl, ?_, ?_⟩
  · unfold WOKl
    refine ⟨by decide, by decide, by decide, fun j hj => ?_⟩
    rw [h42 j hj, k0]
    decide
  · unfold LOK
    refine ⟨by decide, fun n hn => ?_⟩
    rw [show modF 354 = 0 from rfl, k0] at hn
    omega
set_option maxHeartbeats 4000000 in
theorem start_ok {D : DD} {H : Heap} {n : Nat} {G : Nat → Nat} (hs : HSh D H n (n + 1)) (hm : MSh D H (n + 415) (n + 416)) (hg : ∀ c, G (n + c) = rol c) (hlo : ∀ q, q < n → G q = 0) : Ok D G H := by
  obtain ⟨s1, ⟨s2, s3⟩, s4, s5, s6, ⟨s7, s8, s9⟩, ⟨s10, s11⟩, s12, ⟨s13, s14⟩⟩ := hs
  obtain ⟨m1, m2, m3, m4, m5, m6, m7, m8, m9⟩ := hm
  intro q r hq hr
  subst hq
  have hge : n ≤ q := Nat.le_of_not_lt (fun z => hr (hlo q z))
  obtain ⟨k, rfl⟩ : ∃ k, q = n + k := ⟨q - n, by omega⟩
  have hk : k < 424 := Nat.lt_of_not_le (fun z => hr (by rw [hg]; exact rol_hi z))
  have gg : ∀ c v, rol c = v → G (n + c) = v := fun c v h => by rw [hg]; exact h
  by_cases c0 : k = 0
  · subst c0
    rw [gg 0 1 rfl]
    exact cok_o (r := 1) rfl s1 (fun k hk => match k, hk with | 0, _ => vok_q (r := 1) (k := 0) rfl (gg 1 2 rfl) | 1, _ => vok_q (r := 1) (k := 1) rfl (gg 3 4 rfl) | 2, _ => vok_q2 (r := 1) (k := 2) rfl (gg 30 23 rfl) | 3, _ => vok_q (r := 1) (k := 3) rfl (gg 57 4 rfl) | 4, _ => vok_q (r := 1) (k := 4) rfl (gg 84 16 rfl) | 5, _ => vok_q (r := 1) (k := 5) rfl (gg 410 18 rfl) | 6, _ => vok_q (r := 1) (k := 6) rfl (gg 412 20 rfl) | 7, _ => vok_q (r := 1) (k := 7) rfl (gg 413 21 rfl) | 8, _ => vok_0 (r := 1) (k := 8) 0 rfl (by decide) | 9, _ => vok_a (r := 1) (k := 9) rfl | k + 10, hk => absurd hk (by omega))
  by_cases c1 : k = 1
  · subst c1
    rw [gg 1 2 rfl]
    exact cok_o (r := 2) rfl s2 (fun k hk => match k, hk with | 0, _ => vok_q (r := 2) (k := 0) rfl (gg 2 3 rfl) | 1, _ => vok_0 (r := 2) (k := 1) 0 rfl (by decide) | 2, _ => vok_a (r := 2) (k := 2) rfl | 3, _ => vok_a (r := 2) (k := 3) rfl | 4, _ => vok_0 (r := 2) (k := 4) 0 rfl (by decide) | 5, _ => vok_0 (r := 2) (k := 5) 0 rfl (by decide) | 6, _ => vok_a (r := 2) (k := 6) rfl | k + 7, hk => absurd hk (by omega))
  by_cases c2 : k = 2
  · subst c2
    rw [gg 2 3 rfl]
    exact cok_i (r := 3) rfl s3 (by decide) rfl
  by_cases c3 : k < 30
  · exact par_ok false s4 (gg 3 4 rfl) (fun j hj => by rw [show n + 1 + 3 + j = n + (4 + j) by omega, hg]; exact rol_now j hj) (n + k) (by omega)
  by_cases c4 : k < 57
  · exact par_ok true s5 (gg 30 23 rfl) (fun j hj => by rw [show n + 1 + 30 + j = n + (31 + j) by omega, hg]; exact rol_dft j hj) (n + k) (by omega)
  by_cases c5 : k < 84
  · exact par_ok false s6 (gg 57 4 rfl) (fun j hj => by rw [show n + 1 + 57 + j = n + (58 + j) by omega, hg]; exact rol_kep j hj) (n + k) (by omega)
  have gp : ∀ t, t < 12 → G (n + 1 + 84 + 1 + 27 * t) = 4 := fun t ht => by rw [show n + 1 + 84 + 1 + 27 * t = n + (86 + 27 * t) by omega, hg]; exact rol_pst t ht
  by_cases c6 : k = 84
  · subst c6
    rw [gg 84 16 rfl]
    exact cok_o (r := 16) rfl s7 (fun k hk => match k, hk with | 0, _ => vok_q (r := 16) (k := 0) rfl (gg 85 17 rfl) | 1, _ => vok_0 (r := 16) (k := 1) 0 rfl (by decide) | 2, _ => vok_0 (r := 16) (k := 2) 0 rfl (by decide) | k + 3, hk => absurd hk (by omega))
  by_cases c7 : k = 85
  · subst c7
    rw [gg 85 17 rfl]
    exact cok_r (r := 17) rfl s8 gp
  by_cases c8 : k < 410
  · obtain ⟨t, ht, h1⟩ : ∃ t, t < 12 ∧ 86 + 27 * t ≤ k ∧ k < 86 + 27 * t + 27 := ⟨(k - 86) / 27, by omega, by omega, by omega⟩
    exact par_ok false (s9 t ht) (gp t ht) (fun j hj => by rw [show n + 1 + 84 + 2 + 27 * t + j = n + (87 + 27 * t + j) by omega, hg]; exact rol_psc t ht j hj) (n + k) (by omega)
  by_cases c9 : k = 410
  · subst c9
    rw [gg 410 18 rfl]
    exact cok_o (r := 18) rfl s10 (fun k hk => match k, hk with | 0, _ => vok_q (r := 18) (k := 0) rfl (gg 3 4 rfl) | 1, _ => vok_q (r := 18) (k := 1) rfl (gg 411 19 rfl) | 2, _ => vok_a (r := 18) (k := 2) rfl | 3, _ => vok_a (r := 18) (k := 3) rfl | 4, _ => vok_a (r := 18) (k := 4) rfl | k + 5, hk => absurd hk (by omega))
  by_cases c10 : k = 411
  · subst c10
    rw [gg 411 19 rfl]
    exact cok_i (r := 19) rfl s11 (by decide) rfl
  by_cases c11 : k = 412
  · subst c11
    rw [gg 412 20 rfl]
    exact cok_o (r := 20) rfl s12 (fun k hk => match k, hk with | 0, _ => vok_q (r := 20) (k := 0) rfl (gg 1 2 rfl) | 1, _ => vok_a (r := 20) (k := 1) rfl | 2, _ => vok_q2 (r := 20) (k := 2) rfl (gg 30 23 rfl) | k + 3, hk => absurd hk (by omega))
  by_cases c12 : k = 413
  · subst c12
    rw [gg 413 21 rfl]
    exact cok_o (r := 21) rfl s13 (fun k hk => match k, hk with | 0, _ => vok_q (r := 21) (k := 0) rfl (gg 1 2 rfl) | 1, _ => vok_a (r := 21) (k := 1) rfl | 2, _ => vok_q (r := 21) (k := 2) rfl (gg 414 22 rfl) | 3, _ => vok_0 (r := 21) (k := 3) 0 rfl (by decide) | 4, _ => vok_a (r := 21) (k := 4) rfl | k + 5, hk => absurd hk (by omega))
  by_cases c13 : k = 414
  · subst c13
    rw [gg 414 22 rfl]
    exact cok_i (r := 22) rfl s14 (by decide) rfl
  by_cases c14 : k = 415
  · subst c14
    rw [gg 415 30 rfl]
    exact cok_o (r := 30) rfl m1 (fun k hk => match k, hk with | 0, _ => vok_a (r := 30) (k := 0) rfl | 1, _ => vok_q (r := 30) (k := 1) rfl (gg 416 31 rfl) | 2, _ => vok_q (r := 30) (k := 2) rfl (gg 417 32 rfl) | 3, _ => vok_q (r := 30) (k := 3) rfl (gg 418 33 rfl) | 4, _ => vok_q (r := 30) (k := 4) rfl (gg 419 34 rfl) | 5, _ => vok_q (r := 30) (k := 5) rfl (gg 420 35 rfl) | 6, _ => vok_0 (r := 30) (k := 6) 0 rfl (by decide) | 7, _ => vok_0 (r := 30) (k := 7) 0 rfl (by decide) | 8, _ => vok_q (r := 30) (k := 8) rfl (gg 421 36 rfl) | 9, _ => vok_0 (r := 30) (k := 9) 0 rfl (by decide) | 10, _ => vok_0 (r := 30) (k := 10) 0 rfl (by decide) | 11, _ => vok_0 (r := 30) (k := 11) 0 rfl (by decide) | 12, _ => vok_0 (r := 30) (k := 12) 0 rfl (by decide) | 13, _ => vok_0 (r := 30) (k := 13) 0 rfl (by decide) | 14, _ => vok_a (r := 30) (k := 14) rfl | 15, _ => vok_q (r := 30) (k := 15) rfl (gg 422 37 rfl) | 16, _ => vok_0 (r := 30) (k := 16) 0 rfl (by decide) | 17, _ => vok_q (r := 30) (k := 17) rfl (gg 423 38 rfl) | k + 18, hk => absurd hk (by omega))
  have h8 : k = 416 ∨ k = 417 ∨ k = 418 ∨ k = 419 ∨ k = 420 ∨ k = 421 ∨ k = 422 ∨ k = 423 := by omega
  rcases h8 with rfl | rfl | rfl | rfl | rfl | rfl | rfl | rfl
  · rw [gg 416 31 rfl]; exact cok_i (r := 31) rfl m2 (by decide) mod_ok
  · rw [gg 417 32 rfl]; exact cok_i (r := 32) rfl m3 (by decide) ⟨rfl, wl_zero, lk_zero⟩
  · rw [gg 418 33 rfl]; exact cok_i (r := 33) rfl m4 (by decide) ⟨rfl, wl_zero, lk_zero⟩
  · rw [gg 419 34 rfl]; exact cok_i (r := 34) rfl m5 (by decide) ⟨rfl, wl_zero⟩
  · rw [gg 420 35 rfl]; exact cok_i (r := 35) rfl m6 (by decide) ⟨rfl, fun j _ => wl_zero⟩
  · rw [gg 421 36 rfl]; exact cok_i (r := 36) (t := 1) rfl m7 (by decide) rfl
  · rw [gg 422 37 rfl]; exact cok_i (r := 37) rfl m8 (by decide) rfl
  · rw [gg 423 38 rfl]; exact cok_i (r := 38) rfl m9 (by decide) rfl
theorem start_iv {D : DD} {H0 H : Heap} {locs : List Loc} {G : Nat → Nat} (hs : HSh D H H0.size (H0.size + 1)) (hm : MSh D H (H0.size + 415) (H0.size + 416)) (hla : LA D H (H0.size + 424)) (hg : ∀ c, G (H0.size + c) = rol c) (hlo : ∀ q, q < H0.size → G q = 0) (hsz : H0.size ≤ H.size) (hq : ∀ q : Nat, q < H0.size → H[q]? = H0[q]?) (hl : ∀ z ∈ locs, H0.size ≤ z.base) : Iv D G H0 H locs H0.size (H0.size + 415) (H0.size + 424) ∧ tln D H H0.size = (fI D H 11 (H0.size + 415) 9).toInt := by
  have hO := start_ok hs hm hg hlo
  obtain ⟨s1, ⟨s2, s3⟩, s4, s5, s6, s7, s8, s9, s10⟩ := hs
  obtain ⟨m1, -⟩ := hm
  have b2 : fR D H 10 H0.size 2 = H0.size + 30 := by unfold fR; rw [ob_V s1 (by decide)]; rfl
  have b6 : fR D H 10 H0.size 6 = H0.size + 412 := by unfold fR; rw [ob_V s1 (by decide)]; rfl
  have b0 : fR D H 10 H0.size 0 = H0.size + 1 := by unfold fR; rw [ob_V s1 (by decide)]; rfl
  have b20 : fR D H 6 (H0.size + 412) 2 = H0.size + 30 := by unfold fR; rw [show fV D H 6 (H0.size + 412) 2 = _ from ob_V s9 (by decide)]; rfl
  have b51 : fR D H 5 (H0.size + 30) 1 = H0.size + 32 := by unfold fR; rw [show fV D H 5 (H0.size + 30) 1 = _ from ob_V s5.1 (by decide)]; rfl
  refine ⟨⟨hO, ⟨hg 0, hg 415, hg 424⟩, hla, by omega, fun q h => ⟨hlo q h, hq q h⟩, hsz, hl, ?_, ?_⟩, ?_⟩
  · rw [b2]
    refine ⟨hg 30, fun a ha => ?_⟩
    have hge : H0.size ≤ a := Nat.le_of_not_lt (fun z => by rw [hlo a z] at ha; cases ha)
    obtain ⟨k, rfl⟩ : ∃ k, a = H0.size + k := ⟨a - H0.size, by omega⟩
    rw [hg] at ha
    have hk : k < 424 := Nat.lt_of_not_le (fun z => by rw [rol_hi z] at ha; cases ha)
    have h2 := rol_25 k hk ha
    refine ⟨k - 45, by omega, ?_⟩
    rw [b51]
    have e9 := (arrV_eR (g := fun j => H0.size + 1 + 30 + 14 + j) s5.2.2.1 (i := k - 45) (by omega)).2
    have e8 : H0.size + 1 + 30 + 1 = H0.size + 32 := by omega
    rw [e8] at e9
    rw [e9]
    show H0.size + k = H0.size + 1 + 30 + 14 + (k - 45)
    omega
  · rw [b6, b20]
    exact hg 30
  · unfold tln
    rw [b0]
    have e1 : fI D H 9 (H0.size + 1) 1 = 0 := by unfold fI; rw [ob_V s2 (by decide)]; rfl
    have e2 : fI D H 11 (H0.size + 415) 9 = 0 := by unfold fI; rw [ob_V m1 (by decide)]; rfl
    rw [e1, e2]
