/-- the shapes that constructors lay down -/
def FSh (D : DD) (H : Heap) (a n : Nat) : Prop := t_OB a (D.1.1 0) 3 (D.1.2 0) H (fun k => match k with | 0 => .ref n | _ => .int 0) ∧ H[n]? = some (arrV (D.2 6) 4 (fun j => .ref (n + 1 + j))) ∧ ∀ j : Nat, j < 4 → H[n + 1 + j]? = some (arrCell (D.2 0) 60 (fun _ => 0))
def parV (n : Nat) : Nat → Value := fun k => match k with | 0 => .ref n | 1 => .ref (n + 1) | 2 => .ref (n + 2) | 6 => .int 2 | 7 => .int 5 | 8 => .int 50 | 9 => .int 1 | 12 => .int 1 | 13 => .null | _ => .int 0
def PSh (D : DD) (H : Heap) (a n : Nat) : Prop := t_OB a (D.1.1 5) 14 (D.1.2 5) H (parV n) ∧ H[n]? = some (arrV (D.2 3) 6 (fun j => .ref (n + 8 + j))) ∧ H[n + 1]? = some (arrV (D.2 4) 12 (fun j => .ref (n + 14 + j))) ∧ FSh D H (n + 2) (n + 3) ∧ (∀ j : Nat, j < 6 → t_OB (n + 8 + j) (D.1.1 2) 5 (D.1.2 2) H (fun _ => .int 0)) ∧ ∀ j : Nat, j < 12 → t_OB (n + 14 + j) (D.1.1 1) 6 (D.1.2 1) H (fun _ => .int 0)
theorem FSh.kept {D : DD} {H H1 : Heap} {a n : Nat} (h : FSh D H a n) (h1 : H1[a]? = H[a]?) (h2 : ∀ q : Nat, n ≤ q → q < n + 5 → H1[q]? = H[q]?) : FSh D H1 a n := ⟨h.1.kept h1, by rw [h2 n (by omega) (by omega)]; exact h.2.1, fun j hj => by rw [h2 _ (by omega) (by omega)]; exact h.2.2 j hj⟩
theorem PSh.kept {D : DD} {H H1 : Heap} {a n : Nat} (h : PSh D H a n) (h1 : H1[a]? = H[a]?) (h2 : ∀ q : Nat, n ≤ q → q < n + 26 → H1[q]? = H[q]?) : PSh D H1 a n :=
  ⟨h.1.kept h1, by rw [h2 n (by omega) (by omega)]; exact h.2.1, by rw [h2 _ (by omega) (by omega)]; exact h.2.2.1, h.2.2.2.1.kept (h2 _ (by omega) (by omega)) (fun q h3 h4 => h2 q (by omega) (by omega)), fun j hj => (h.2.2.2.2.1 j hj).kept (h2 _ (by omega) (by omega)), fun j hj => (h.2.2.2.2.2 j hj).kept (h2 _ (by omega) (by omega))⟩
theorem arrV_congr {cA : ClassId} {N : Nat} {f g : Nat → Value} (h : ∀ j, j < N → f j = g j) : arrV cA N f = arrV cA N g := by
  unfold arrV
  congr 1
  apply Array.ext_getElem?
  intro j
  by_cases hj : j < N
  · simp [hj, h j hj]
  · simp [hj]
theorem ko_X1_1 : ∀ w ∈ ([.methodLink RX1 1 Lib.objectInit, .instanceMethod Lib.objectInit, .code Lib.objectInit ⟨#[0xb1]⟩ 1 none] : List Cond), w ∈ lw_good := mem_dec (by decide +kernel)
theorem ko_X2_1 : ∀ w ∈ ([.methodLink RX2 1 Lib.objectInit, .instanceMethod Lib.objectInit, .code Lib.objectInit ⟨#[0xb1]⟩ 1 none] : List Cond), w ∈ lw_good := mem_dec (by decide +kernel)
theorem ko_X0_3 : ∀ w ∈ ([.methodLink RX0 3 Lib.objectInit, .instanceMethod Lib.objectInit, .code Lib.objectInit ⟨#[0xb1]⟩ 1 none] : List Cond), w ∈ lw_good := mem_dec (by decide +kernel)
theorem kq_X0_11 : Cond.classLink RX0 11 ("[" ++ (FieldType.array .int).toString) ∈ lw_good := mem_dec (L := [.classLink RX0 11 ("[" ++ (FieldType.array .int).toString)]) (by decide +kernel) _ (List.mem_singleton.mpr rfl)
theorem ko_X5_3 : ∀ w ∈ ([.methodLink RX5 3 Lib.objectInit, .instanceMethod Lib.objectInit, .code Lib.objectInit ⟨#[0xb1]⟩ 1 none] : List Cond), w ∈ lw_good := mem_dec (by decide +kernel)
theorem kq_X5_9 : Cond.classLink RX5 9 RX2 ∈ lw_good := mem_dec (L := [.classLink RX5 9 RX2]) (by decide +kernel) _ (List.mem_singleton.mpr rfl)
theorem kq_X5_17 : Cond.classLink RX5 17 RX1 ∈ lw_good := mem_dec (L := [.classLink RX5 17 RX1]) (by decide +kernel) _ (List.mem_singleton.mpr rfl)
theorem kn_X5_23 : ∀ w ∈ ([.classLink RX5 23 RX0, .instantiable RX0 3, .initialized RX0] : List Cond), w ∈ lw_good := mem_dec (by decide +kernel)
theorem kM_X5_25 : ∀ w ∈ ([.instanceMethod yX0_init, .initialized RX0, .code yX0_init cX0_init 1 none] : List Cond), w ∈ lw_good := mem_dec (by decide +kernel)
theorem kn_X5_9 : ∀ w ∈ ([.classLink RX5 9 RX2, .instantiable RX2 5, .initialized RX2] : List Cond), w ∈ lw_good := mem_dec (by decide +kernel)
theorem kM_X5_65 : ∀ w ∈ ([.instanceMethod yX2_init, .initialized RX2, .code yX2_init cX2_init 1 none] : List Cond), w ∈ lw_good := mem_dec (by decide +kernel)
theorem kn_X5_17 : ∀ w ∈ ([.classLink RX5 17 RX1, .instantiable RX1 6, .initialized RX1] : List Cond), w ∈ lw_good := mem_dec (by decide +kernel)
theorem kM_X5_66 : ∀ w ∈ ([.instanceMethod yX1_init, .initialized RX1, .code yX1_init cX1_init 1 none] : List Cond), w ∈ lw_good := mem_dec (by decide +kernel)
set_option maxRecDepth 100000 in
set_option maxHeartbeats 4000000 in
theorem c_X1_init (l : Launch) (D : DD) (a0 : Nat)   : CS l Ao D yX1_init cX1_init 1 0 0 0 [.ref a0] a0 (fun H => t_OB a0 (D.1.1 1) 6 (D.1.2 1) H (fun k => dflt (TX1 k).2.2.1)) (fun H0 H1 => t_OB a0 (D.1.1 1) 6 (D.1.2 1) H1 (fun k => dflt (TX1 k).2.2.1)) := by
  refine enterS (by decide) (Nat.le_of_ble_eq_true rfl) rfl ?_
  intro p e s m args below meth c ls Q hA hQ C hr hpre hl
  have hx := C.1
  have hb := C.2.1
  have hl : lv_has ls 1 [(0, .ref a0)] := hl
  have N0 : Nf s.heap s.heap [] a0 0 := ⟨rfl, fun _ _ _ => rfl, fun _ h => nomatch h⟩
  have ob := hpre
  have a0lt : a0 < s.heap.size := by obtain ⟨c9, h9, -⟩ := ob; exact (Array.getElem?_eq_some_iff.mp h9).1
  refine lv_aload_n hx hb dX1_init_0 rfl (lv_at hl 0 rfl) ?_
  refine n_obj C ko_X1_1 hl.1 dX1_init_1 ⟨Nat.le_of_ble_eq_true rfl, Nat.le_of_ble_eq_true rfl⟩ ?_
  exact n_ret hQ C N0 hr dX1_init_4 (by decide) (by decide) (ob)

set_option maxRecDepth 100000 in
set_option maxHeartbeats 4000000 in
theorem c_X2_init (l : Launch) (D : DD) (a0 : Nat)   : CS l Ao D yX2_init cX2_init 1 0 0 0 [.ref a0] a0 (fun H => t_OB a0 (D.1.1 2) 5 (D.1.2 2) H (fun k => dflt (TX2 k).2.2.1)) (fun H0 H1 => t_OB a0 (D.1.1 2) 5 (D.1.2 2) H1 (fun k => dflt (TX2 k).2.2.1)) := by
  refine enterS (by decide) (Nat.le_of_ble_eq_true rfl) rfl ?_
  intro p e s m args below meth c ls Q hA hQ C hr hpre hl
  have hx := C.1
  have hb := C.2.1
  have hl : lv_has ls 1 [(0, .ref a0)] := hl
  have N0 : Nf s.heap s.heap [] a0 0 := ⟨rfl, fun _ _ _ => rfl, fun _ h => nomatch h⟩
  have ob := hpre
  have a0lt : a0 < s.heap.size := by obtain ⟨c9, h9, -⟩ := ob; exact (Array.getElem?_eq_some_iff.mp h9).1
  refine lv_aload_n hx hb dX2_init_0 rfl (lv_at hl 0 rfl) ?_
  refine n_obj C ko_X2_1 hl.1 dX2_init_1 ⟨Nat.le_of_ble_eq_true rfl, Nat.le_of_ble_eq_true rfl⟩ ?_
  exact n_ret hQ C N0 hr dX2_init_4 (by decide) (by decide) (ob)

set_option maxRecDepth 100000 in
set_option maxHeartbeats 4000000 in
theorem c_X0_init (l : Launch) (D : DD) (a0 : Nat)   : CS l Ao D yX0_init cX0_init 1 0 5 244 [.ref a0] a0 (fun H => t_OB a0 (D.1.1 0) 3 (D.1.2 0) H (fun k => dflt (TX0 k).2.2.1)) (fun H0 H1 => FSh D H1 a0 H0.size) := by
  refine enterS (by decide) (Nat.le_of_ble_eq_true rfl) rfl ?_
  intro p e s m args below meth c ls Q hA hQ C hr hpre hl
  have hx := C.1
  have hb := C.2.1
  have hl : lv_has ls 1 [(0, .ref a0)] := hl
  have N0 : Nf s.heap s.heap [] a0 0 := ⟨rfl, fun _ _ _ => rfl, fun _ h => nomatch h⟩
  have ob := hpre
  have a0lt : a0 < s.heap.size := by obtain ⟨c9, h9, -⟩ := ob; exact (Array.getElem?_eq_some_iff.mp h9).1
  refine lv_aload_n hx hb dX0_init_0 rfl (lv_at hl 0 rfl) ?_
  refine n_obj C ko_X0_3 hl.1 dX0_init_1 ⟨Nat.le_of_ble_eq_true rfl, Nat.le_of_ble_eq_true rfl⟩ ?_
  refine lv_aload_n hx hb dX0_init_4 rfl (lv_at hl 0 rfl) ?_
  refine lv_iconst (v := 4) hx hb dX0_init_5 (by decide) ?_
  refine lv_bipush (v := 60) hx hb dX0_init_6 (by decide) ?_
  refine n_mu (N := 4) (M := 60) (b := s.heap.size) C N0 rfl kq_X0_11 (by decide) (by decide) (by decide) (by decide) (by decide) ⟨Nat.le_of_ble_eq_true rfl, Nat.le_of_ble_eq_true rfl⟩ dX0_init_8 (fun H1 N1 o1 p1 e1 => ?_)
  have ob := ob.kept (e1 a0 (by omega))
  have p1_0 := p1 0 (by decide)
  have p1_1 := p1 1 (by decide)
  have p1_2 := p1 2 (by decide)
  have p1_3 := p1 3 (by decide)
  refine n_put (T := TX0) C N1 ob 0 kF_X0_13 dX0_init_12 rfl (by decide) rfl rfl rfl rfl rfl (fun H2 L2 N2 o2 e2 => ?_)
  have o1 := (e2 s.heap.size (by omega)).trans o1
  have p1_0 := (e2 (s.heap.size + 1) (by omega)).trans p1_0
  have p1_1 := (e2 (s.heap.size + 2) (by omega)).trans p1_1
  have p1_2 := (e2 (s.heap.size + 3) (by omega)).trans p1_2
  have p1_3 := (e2 (s.heap.size + 4) (by omega)).trans p1_3
  refine lv_aload_n hx hb dX0_init_15 rfl (lv_at hl 0 rfl) ?_
  refine lv_iconst (v := 0) hx hb dX0_init_16 (by decide) ?_
  refine n_put (T := TX0) C N2 o2 1 kF_X0_16 dX0_init_17 rfl (by decide) rfl rfl rfl rfl rfl (fun H3 L3 N3 o3 e3 => ?_)
  have o1 := (e3 s.heap.size (by omega)).trans o1
  have p1_0 := (e3 (s.heap.size + 1) (by omega)).trans p1_0
  have p1_1 := (e3 (s.heap.size + 2) (by omega)).trans p1_1
  have p1_2 := (e3 (s.heap.size + 3) (by omega)).trans p1_2
  have p1_3 := (e3 (s.heap.size + 4) (by omega)).trans p1_3
  refine lv_aload_n hx hb dX0_init_20 rfl (lv_at hl 0 rfl) ?_
  refine lv_iconst (v := 0) hx hb dX0_init_21 (by decide) ?_
  refine n_put (T := TX0) C N3 o3 2 kF_X0_20 dX0_init_22 rfl (by decide) rfl rfl rfl rfl rfl (fun H4 L4 N4 o4 e4 => ?_)
  have o1 := (e4 s.heap.size (by omega)).trans o1
  have p1_0 := (e4 (s.heap.size + 1) (by omega)).trans p1_0
  have p1_1 := (e4 (s.heap.size + 2) (by omega)).trans p1_1
  have p1_2 := (e4 (s.heap.size + 3) (by omega)).trans p1_2
  have p1_3 := (e4 (s.heap.size + 4) (by omega)).trans p1_3
  exact n_ret hQ C N4 hr dX0_init_25 (by decide) (by decide) (⟨o4.to (fun k hk => match k, hk with | 0, _ => rfl | 1, _ => rfl | 2, _ => rfl | k + 3, hk => absurd hk (by omega)), o1, fun j hj => match j, hj with | 0, _ => p1_0 | 1, _ => p1_1 | 2, _ => p1_2 | 3, _ => p1_3 | j + 4, hj => absurd hj (by omega)⟩)

set_option maxRecDepth 100000 in
set_option maxHeartbeats 4000000 in
theorem c_X5_init (l : Launch) (D : DD) (a0 : Nat)   : CS l Ao D yX5_init cX5_init 2 1 26 367 [.ref a0] a0 (fun H => t_OB a0 (D.1.1 5) 14 (D.1.2 5) H (fun k => dflt (TX5 k).2.2.1)) (fun H0 H1 => PSh D H1 a0 H0.size) := by
  refine enterS (by decide) (Nat.le_of_ble_eq_true rfl) rfl ?_
  intro p e s m args below meth c ls Q hA hQ C hr hpre hl
  have hx := C.1
  have hb := C.2.1
  have hl : lv_has ls 2 [(0, .ref a0)] := hl
  have N0 : Nf s.heap s.heap [] a0 0 := ⟨rfl, fun _ _ _ => rfl, fun _ h => nomatch h⟩
  have ob := hpre
  have a0lt : a0 < s.heap.size := by obtain ⟨c9, h9, -⟩ := ob; exact (Array.getElem?_eq_some_iff.mp h9).1
  refine lv_aload_n hx hb dX5_init_0 rfl (lv_at hl 0 rfl) ?_
  refine n_obj C ko_X5_3 hl.1 dX5_init_1 ⟨Nat.le_of_ble_eq_true rfl, Nat.le_of_ble_eq_true rfl⟩ ?_
  refine lv_aload_n hx hb dX5_init_4 rfl (lv_at hl 0 rfl) ?_
  refine lv_bipush (v := 6) hx hb dX5_init_5 (by decide) ?_
  refine n_aq (N := 6) (t := 3) (b := s.heap.size) C N0 rfl kq_X5_9 C.2.2.2.2.2.2.2.2.1 rfl (by decide) (by decide) (by decide) ⟨Nat.le_of_ble_eq_true rfl, Nat.le_of_ble_eq_true rfl⟩ dX5_init_7 (fun H1 N1 o1 e1 => ?_)
  have ob := ob.kept (e1 a0 (by omega))
  refine n_put (T := TX5) C N1 ob 0 kF_X5_11 dX5_init_10 rfl (by decide) rfl rfl rfl rfl rfl (fun H2 L2 N2 o2 e2 => ?_)
  have o1 := (e2 s.heap.size (by omega)).trans o1
  refine lv_aload_n hx hb dX5_init_13 rfl (lv_at hl 0 rfl) ?_
  refine lv_bipush (v := 12) hx hb dX5_init_14 (by decide) ?_
  refine n_aq (N := 12) (t := 4) (b := (s.heap.size + 1)) C N2 rfl kq_X5_17 C.2.2.2.2.2.2.2.2.2.1 rfl (by decide) (by decide) (by decide) ⟨Nat.le_of_ble_eq_true rfl, Nat.le_of_ble_eq_true rfl⟩ dX5_init_16 (fun H3 N3 o3 e3 => ?_)
  have o2 := o2.kept (e3 a0 (by omega))
  have o1 := (e3 s.heap.size (by omega)).trans o1
  refine n_put (T := TX5) C N3 o2 1 kF_X5_19 dX5_init_19 rfl (by decide) rfl rfl rfl rfl rfl (fun H4 L4 N4 o4 e4 => ?_)
  have o1 := (e4 s.heap.size (by omega)).trans o1
  have o3 := (e4 (s.heap.size + 1) (by omega)).trans o3
  refine lv_aload_n hx hb dX5_init_22 rfl (lv_at hl 0 rfl) ?_
  refine n_new (ci := 0) (T := TX0) (b := (s.heap.size + 2)) C N4 rfl kn_X5_23 dX5_init_23 rfl ⟨Nat.le_of_ble_eq_true rfl, Nat.le_of_ble_eq_true rfl⟩ (fun H5 N5 o5 e5 => ?_)
  have o4 := o4.kept (e5 a0 (by omega))
  have o1 := (e5 s.heap.size (by omega)).trans o1
  have o3 := (e5 (s.heap.size + 1) (by omega)).trans o3
  refine lv_dup hx hb dX5_init_26 rfl ?_
  refine n_callN (As := []) C N5 (c_X0_init l D (s.heap.size + 2)) kNe_X5_25 kM_X5_25 (Or.inr (by omega)) o5 dX5_init_27 hl.1 rfl cd_X0_init ⟨Nat.le_of_ble_eq_true rfl, Nat.le_of_ble_eq_true rfl, Nat.le_of_ble_eq_true rfl, Nat.le_of_ble_eq_true rfl, Nat.le_of_ble_eq_true rfl⟩ (fun H6 L6 N6 e6 q6 => ?_)
  have o4 := o4.kept (e6 a0 (by omega) (by omega))
  have o1 := (e6 s.heap.size (by omega) (by omega)).trans o1
  have o3 := (e6 (s.heap.size + 1) (by omega) (by omega)).trans o3
  have fs9 := q6
  rw [show H5.size = s.heap.size + 3 from N5.1] at fs9
  refine n_put (T := TX5) C N6 o4 2 kF_X5_26 dX5_init_30 rfl (by decide) rfl rfl rfl rfl rfl (fun H7 L7 N7 o7 e7 => ?_)
  have o1 := (e7 s.heap.size (by omega)).trans o1
  have o3 := (e7 (s.heap.size + 1) (by omega)).trans o3
  have fs9 := fs9.kept (e7 (s.heap.size + 2) (by omega)) (fun q9 h8 h9 => e7 q9 (by omega))
  refine lv_aload_n hx hb dX5_init_33 rfl (lv_at hl 0 rfl) ?_
  refine lv_iconst (v := 0) hx hb dX5_init_34 (by decide) ?_
  refine n_put (T := TX5) C N7 o7 3 kF_X5_30 dX5_init_35 rfl (by decide) rfl rfl rfl rfl rfl (fun H8 L8 N8 o8 e8 => ?_)
  have o1 := (e8 s.heap.size (by omega)).trans o1
  have o3 := (e8 (s.heap.size + 1) (by omega)).trans o3
  have fs9 := fs9.kept (e8 (s.heap.size + 2) (by omega)) (fun q9 h8 h9 => e8 q9 (by omega))
  refine lv_aload_n hx hb dX5_init_38 rfl (lv_at hl 0 rfl) ?_
  refine lv_iconst (v := 0) hx hb dX5_init_39 (by decide) ?_
  refine n_put (T := TX5) C N8 o8 4 kF_X5_34 dX5_init_40 rfl (by decide) rfl rfl rfl rfl rfl (fun H9 L9 N9 o9 e9 => ?_)
  have o1 := (e9 s.heap.size (by omega)).trans o1
  have o3 := (e9 (s.heap.size + 1) (by omega)).trans o3
  have fs9 := fs9.kept (e9 (s.heap.size + 2) (by omega)) (fun q9 h8 h9 => e9 q9 (by omega))
  refine lv_aload_n hx hb dX5_init_43 rfl (lv_at hl 0 rfl) ?_
  refine lv_iconst (v := 0) hx hb dX5_init_44 (by decide) ?_
  refine n_put (T := TX5) C N9 o9 5 kF_X5_37 dX5_init_45 rfl (by decide) rfl rfl rfl rfl rfl (fun H10 L10 N10 o10 e10 => ?_)
  have o1 := (e10 s.heap.size (by omega)).trans o1
  have o3 := (e10 (s.heap.size + 1) (by omega)).trans o3
  have fs9 := fs9.kept (e10 (s.heap.size + 2) (by omega)) (fun q9 h8 h9 => e10 q9 (by omega))
  refine lv_aload_n hx hb dX5_init_48 rfl (lv_at hl 0 rfl) ?_
  refine lv_iconst (v := 2) hx hb dX5_init_49 (by decide) ?_
  refine n_put (T := TX5) C N10 o10 6 kF_X5_40 dX5_init_50 rfl (by decide) rfl rfl rfl rfl rfl (fun H11 L11 N11 o11 e11 => ?_)
  have o1 := (e11 s.heap.size (by omega)).trans o1
  have o3 := (e11 (s.heap.size + 1) (by omega)).trans o3
  have fs9 := fs9.kept (e11 (s.heap.size + 2) (by omega)) (fun q9 h8 h9 => e11 q9 (by omega))
  refine lv_aload_n hx hb dX5_init_53 rfl (lv_at hl 0 rfl) ?_
  refine lv_iconst (v := 5) hx hb dX5_init_54 (by decide) ?_
  refine n_put (T := TX5) C N11 o11 7 kF_X5_43 dX5_init_55 rfl (by decide) rfl rfl rfl rfl rfl (fun H12 L12 N12 o12 e12 => ?_)
  have o1 := (e12 s.heap.size (by omega)).trans o1
  have o3 := (e12 (s.heap.size + 1) (by omega)).trans o3
  have fs9 := fs9.kept (e12 (s.heap.size + 2) (by omega)) (fun q9 h8 h9 => e12 q9 (by omega))
  refine lv_aload_n hx hb dX5_init_58 rfl (lv_at hl 0 rfl) ?_
  refine lv_bipush (v := 50) hx hb dX5_init_59 (by decide) ?_
  refine n_put (T := TX5) C N12 o12 8 kF_X5_46 dX5_init_61 rfl (by decide) rfl rfl rfl rfl rfl (fun H13 L13 N13 o13 e13 => ?_)
  have o1 := (e13 s.heap.size (by omega)).trans o1
  have o3 := (e13 (s.heap.size + 1) (by omega)).trans o3
  have fs9 := fs9.kept (e13 (s.heap.size + 2) (by omega)) (fun q9 h8 h9 => e13 q9 (by omega))
  refine lv_aload_n hx hb dX5_init_64 rfl (lv_at hl 0 rfl) ?_
  refine lv_iconst (v := 1) hx hb dX5_init_65 (by decide) ?_
  refine n_put (T := TX5) C N13 o13 9 kF_X5_49 dX5_init_66 rfl (by decide) rfl rfl rfl rfl rfl (fun H14 L14 N14 o14 e14 => ?_)
  have o1 := (e14 s.heap.size (by omega)).trans o1
  have o3 := (e14 (s.heap.size + 1) (by omega)).trans o3
  have fs9 := fs9.kept (e14 (s.heap.size + 2) (by omega)) (fun q9 h8 h9 => e14 q9 (by omega))
  refine lv_aload_n hx hb dX5_init_69 rfl (lv_at hl 0 rfl) ?_
  refine lv_iconst (v := 0) hx hb dX5_init_70 (by decide) ?_
  refine n_put (T := TX5) C N14 o14 10 kF_X5_52 dX5_init_71 rfl (by decide) rfl rfl rfl rfl rfl (fun H15 L15 N15 o15 e15 => ?_)
  have o1 := (e15 s.heap.size (by omega)).trans o1
  have o3 := (e15 (s.heap.size + 1) (by omega)).trans o3
  have fs9 := fs9.kept (e15 (s.heap.size + 2) (by omega)) (fun q9 h8 h9 => e15 q9 (by omega))
  refine lv_aload_n hx hb dX5_init_74 rfl (lv_at hl 0 rfl) ?_
  refine lv_iconst (v := 0) hx hb dX5_init_75 (by decide) ?_
  refine n_put (T := TX5) C N15 o15 11 kF_X5_55 dX5_init_76 rfl (by decide) rfl rfl rfl rfl rfl (fun H16 L16 N16 o16 e16 => ?_)
  have o1 := (e16 s.heap.size (by omega)).trans o1
  have o3 := (e16 (s.heap.size + 1) (by omega)).trans o3
  have fs9 := fs9.kept (e16 (s.heap.size + 2) (by omega)) (fun q9 h8 h9 => e16 q9 (by omega))
  refine lv_aload_n hx hb dX5_init_79 rfl (lv_at hl 0 rfl) ?_
  refine lv_iconst (v := 1) hx hb dX5_init_80 (by decide) ?_
  refine n_put (T := TX5) C N16 o16 12 kF_X5_58 dX5_init_81 rfl (by decide) rfl rfl rfl rfl rfl (fun H17 L17 N17 o17 e17 => ?_)
  have o1 := (e17 s.heap.size (by omega)).trans o1
  have o3 := (e17 (s.heap.size + 1) (by omega)).trans o3
  have fs9 := fs9.kept (e17 (s.heap.size + 2) (by omega)) (fun q9 h8 h9 => e17 q9 (by omega))
  refine lv_aload_n hx hb dX5_init_84 rfl (lv_at hl 0 rfl) ?_
  refine lv_null hx hb dX5_init_85 ?_
  refine n_put (T := TX5) C N17 o17 13 kF_X5_61 dX5_init_86 rfl (by decide) rfl rfl rfl rfl rfl (fun H18 L18 N18 o18 e18 => ?_)
  have o1 := (e18 s.heap.size (by omega)).trans o1
  have o3 := (e18 (s.heap.size + 1) (by omega)).trans o3
  have fs9 := fs9.kept (e18 (s.heap.size + 2) (by omega)) (fun q9 h8 h9 => e18 q9 (by omega))
  refine lv_iconst (v := 0) hx hb dX5_init_89 (by decide) ?_
  refine lv_istore_n (lv' := [(1, .int (0 : Int32)), (0, .ref a0)]) hx hb dX5_init_90 rfl hl (by decide) rfl (fun ls hl => ?_)
  refine lv_iload_n hx hb dX5_init_91 rfl (lv_at hl 0 rfl) ?_
  refine lv_bipush (v := 6) hx hb dX5_init_92 (by decide) ?_
  refine lv_icmp_ge (tgt := 116) hx hb dX5_init_94 (by decide) (fun c9 => ?_) (fun c9 => ?_)
  · exact absurd c9 (by decide)
  refine lv_aload_n hx hb dX5_init_97 rfl (lv_at hl 1 rfl) ?_
  refine n_get (T := TX5) (v := .ref s.heap.size) C o18 0 kF_X5_11 dX5_init_98 rfl (by decide) rfl rfl ?_
  refine lv_iload_n hx hb dX5_init_101 rfl (lv_at hl 0 rfl) ?_
  refine n_new (ci := 2) (T := TX2) (b := (s.heap.size + 8)) C N18 rfl kn_X5_9 dX5_init_102 rfl ⟨Nat.le_of_ble_eq_true rfl, Nat.le_of_ble_eq_true rfl⟩ (fun H19 N19 o19 e19 => ?_)
  have o18 := o18.kept (e19 a0 (by omega))
  have o1 := (e19 s.heap.size (by omega)).trans o1
  have o3 := (e19 (s.heap.size + 1) (by omega)).trans o3
  have fs9 := fs9.kept (e19 (s.heap.size + 2) (by omega)) (fun q9 h8 h9 => e19 q9 (by omega))
  refine lv_dup hx hb dX5_init_105 rfl ?_
  refine n_callN (As := []) C N19 (c_X2_init l D (s.heap.size + 8)) kNe_X5_65 kM_X5_65 (Or.inr (by omega)) o19 dX5_init_106 hl.1 rfl cd_X2_init ⟨Nat.le_of_ble_eq_true rfl, Nat.le_of_ble_eq_true rfl, Nat.le_of_ble_eq_true rfl, Nat.le_of_ble_eq_true rfl, Nat.le_of_ble_eq_true rfl⟩ (fun H20 L20 N20 e20 q20 => ?_)
  have o18 := o18.kept (e20 a0 (by omega) (by omega))
  have o1 := (e20 s.heap.size (by omega) (by omega)).trans o1
  have o3 := (e20 (s.heap.size + 1) (by omega) (by omega)).trans o3
  have fs9 := fs9.kept (e20 (s.heap.size + 2) (by omega) (by omega)) (fun q9 h8 h9 => e20 q9 (by omega) (by omega))
  have o19 := q20
  refine n_as (t := 3) (T := TX2) C N20 o1 o19 (by omega) rfl rfl (by decide) (by decide) dX5_init_109 (fun H21 L21 N21 o21 e21 => ?_)
  have o18 := o18.kept (e21 a0 (by omega))
  have o3 := (e21 (s.heap.size + 1) (by omega)).trans o3
  have fs9 := fs9.kept (e21 (s.heap.size + 2) (by omega)) (fun q9 h8 h9 => e21 q9 (by omega))
  have o19 := o19.kept (e21 (s.heap.size + 8) (by omega))
  refine lv_iinc (v := (1 : Int32)) (lv' := [(1, .int (1 : Int32)), (0, .ref a0)]) hx hb dX5_init_110 hl (k := 0) rfl (by decide) (by decide) rfl (fun ls hl => ?_)
  refine lv_goto (tgt := 91) hx hb dX5_init_113 (by decide) ?_
  refine lv_iload_n hx hb dX5_init_91 rfl (lv_at hl 0 rfl) ?_
  refine lv_bipush (v := 6) hx hb dX5_init_92 (by decide) ?_
  refine lv_icmp_ge (tgt := 116) hx hb dX5_init_94 (by decide) (fun c9 => ?_) (fun c9 => ?_)
  · exact absurd c9 (by decide)
  refine lv_aload_n hx hb dX5_init_97 rfl (lv_at hl 1 rfl) ?_
  refine n_get (T := TX5) (v := .ref s.heap.size) C o18 0 kF_X5_11 dX5_init_98 rfl (by decide) rfl rfl ?_
  refine lv_iload_n hx hb dX5_init_101 rfl (lv_at hl 0 rfl) ?_
  refine n_new (ci := 2) (T := TX2) (b := (s.heap.size + 9)) C N21 rfl kn_X5_9 dX5_init_102 rfl ⟨Nat.le_of_ble_eq_true rfl, Nat.le_of_ble_eq_true rfl⟩ (fun H22 N22 o22 e22 => ?_)
  have o18 := o18.kept (e22 a0 (by omega))
  have o21 := (e22 s.heap.size (by omega)).trans o21
  have o3 := (e22 (s.heap.size + 1) (by omega)).trans o3
  have fs9 := fs9.kept (e22 (s.heap.size + 2) (by omega)) (fun q9 h8 h9 => e22 q9 (by omega))
  have o19 := o19.kept (e22 (s.heap.size + 8) (by omega))
  refine lv_dup hx hb dX5_init_105 rfl ?_
  refine n_callN (As := []) C N22 (c_X2_init l D (s.heap.size + 9)) kNe_X5_65 kM_X5_65 (Or.inr (by omega)) o22 dX5_init_106 hl.1 rfl cd_X2_init ⟨Nat.le_of_ble_eq_true rfl, Nat.le_of_ble_eq_true rfl, Nat.le_of_ble_eq_true rfl, Nat.le_of_ble_eq_true rfl, Nat.le_of_ble_eq_true rfl⟩ (fun H23 L23 N23 e23 q23 => ?_)
  have o18 := o18.kept (e23 a0 (by omega) (by omega))
  have o21 := (e23 s.heap.size (by omega) (by omega)).trans o21
  have o3 := (e23 (s.heap.size + 1) (by omega) (by omega)).trans o3
  have fs9 := fs9.kept (e23 (s.heap.size + 2) (by omega) (by omega)) (fun q9 h8 h9 => e23 q9 (by omega) (by omega))
  have o19 := o19.kept (e23 (s.heap.size + 8) (by omega) (by omega))
  have o22 := q23
  refine n_as (t := 3) (T := TX2) C N23 o21 o22 (by omega) rfl rfl (by decide) (by decide) dX5_init_109 (fun H24 L24 N24 o24 e24 => ?_)
  have o18 := o18.kept (e24 a0 (by omega))
  have o3 := (e24 (s.heap.size + 1) (by omega)).trans o3
  have fs9 := fs9.kept (e24 (s.heap.size + 2) (by omega)) (fun q9 h8 h9 => e24 q9 (by omega))
  have o19 := o19.kept (e24 (s.heap.size + 8) (by omega))
  have o22 := o22.kept (e24 (s.heap.size + 9) (by omega))
  refine lv_iinc (v := (2 : Int32)) (lv' := [(1, .int (2 : Int32)), (0, .ref a0)]) hx hb dX5_init_110 hl (k := 0) rfl (by decide) (by decide) rfl (fun ls hl => ?_)
  refine lv_goto (tgt := 91) hx hb dX5_init_113 (by decide) ?_
  refine lv_iload_n hx hb dX5_init_91 rfl (lv_at hl 0 rfl) ?_
  refine lv_bipush (v := 6) hx hb dX5_init_92 (by decide) ?_
  refine lv_icmp_ge (tgt := 116) hx hb dX5_init_94 (by decide) (fun c9 => ?_) (fun c9 => ?_)
  · exact absurd c9 (by decide)
  refine lv_aload_n hx hb dX5_init_97 rfl (lv_at hl 1 rfl) ?_
  refine n_get (T := TX5) (v := .ref s.heap.size) C o18 0 kF_X5_11 dX5_init_98 rfl (by decide) rfl rfl ?_
  refine lv_iload_n hx hb dX5_init_101 rfl (lv_at hl 0 rfl) ?_
  refine n_new (ci := 2) (T := TX2) (b := (s.heap.size + 10)) C N24 rfl kn_X5_9 dX5_init_102 rfl ⟨Nat.le_of_ble_eq_true rfl, Nat.le_of_ble_eq_true rfl⟩ (fun H25 N25 o25 e25 => ?_)
  have o18 := o18.kept (e25 a0 (by omega))
  have o24 := (e25 s.heap.size (by omega)).trans o24
  have o3 := (e25 (s.heap.size + 1) (by omega)).trans o3
  have fs9 := fs9.kept (e25 (s.heap.size + 2) (by omega)) (fun q9 h8 h9 => e25 q9 (by omega))
  have o19 := o19.kept (e25 (s.heap.size + 8) (by omega))
  have o22 := o22.kept (e25 (s.heap.size + 9) (by omega))
  refine lv_dup hx hb dX5_init_105 rfl ?_
  refine n_callN (As := []) C N25 (c_X2_init l D (s.heap.size + 10)) kNe_X5_65 kM_X5_65 (Or.inr (by omega)) o25 dX5_init_106 hl.1 rfl cd_X2_init ⟨Nat.le_of_ble_eq_true rfl, Nat.le_of_ble_eq_true rfl, Nat.le_of_ble_eq_true rfl, Nat.le_of_ble_eq_true rfl, Nat.le_of_ble_eq_true rfl⟩ (fun H26 L26 N26 e26 q26 => ?_)
  have o18 := o18.kept (e26 a0 (by omega) (by omega))
  have o24 := (e26 s.heap.size (by omega) (by omega)).trans o24
  have o3 := (e26 (s.heap.size + 1) (by omega) (by omega)).trans o3
  have fs9 := fs9.kept (e26 (s.heap.size + 2) (by omega) (by omega)) (fun q9 h8 h9 => e26 q9 (by omega) (by omega))
  have o19 := o19.kept (e26 (s.heap.size + 8) (by omega) (by omega))
  have o22 := o22.kept (e26 (s.heap.size + 9) (by omega) (by omega))
  have o25 := q26
  refine n_as (t := 3) (T := TX2) C N26 o24 o25 (by omega) rfl rfl (by decide) (by decide) dX5_init_109 (fun H27 L27 N27 o27 e27 => ?_)
  have o18 := o18.kept (e27 a0 (by omega))
  have o3 := (e27 (s.heap.size + 1) (by omega)).trans o3
  have fs9 := fs9.kept (e27 (s.heap.size + 2) (by omega)) (fun q9 h8 h9 => e27 q9 (by omega))
  have o19 := o19.kept (e27 (s.heap.size + 8) (by omega))
  have o22 := o22.kept (e27 (s.heap.size + 9) (by omega))
  have o25 := o25.kept (e27 (s.heap.size + 10) (by omega))
  refine lv_iinc (v := (3 : Int32)) (lv' := [(1, .int (3 : Int32)), (0, .ref a0)]) hx hb dX5_init_110 hl (k := 0) rfl (by decide) (by decide) rfl (fun ls hl => ?_)
  refine lv_goto (tgt := 91) hx hb dX5_init_113 (by decide) ?_
  refine lv_iload_n hx hb dX5_init_91 rfl (lv_at hl 0 rfl) ?_
  refine lv_bipush (v := 6) hx hb dX5_init_92 (by decide) ?_
  refine lv_icmp_ge (tgt := 116) hx hb dX5_init_94 (by decide) (fun c9 => ?_) (fun c9 => ?_)
  · exact absurd c9 (by decide)
  refine lv_aload_n hx hb dX5_init_97 rfl (lv_at hl 1 rfl) ?_
  refine n_get (T := TX5) (v := .ref s.heap.size) C o18 0 kF_X5_11 dX5_init_98 rfl (by decide) rfl rfl ?_
  refine lv_iload_n hx hb dX5_init_101 rfl (lv_at hl 0 rfl) ?_
  refine n_new (ci := 2) (T := TX2) (b := (s.heap.size + 11)) C N27 rfl kn_X5_9 dX5_init_102 rfl ⟨Nat.le_of_ble_eq_true rfl, Nat.le_of_ble_eq_true rfl⟩ (fun H28 N28 o28 e28 => ?_)
  have o18 := o18.kept (e28 a0 (by omega))
  have o27 := (e28 s.heap.size (by omega)).trans o27
  have o3 := (e28 (s.heap.size + 1) (by omega)).trans o3
  have fs9 := fs9.kept (e28 (s.heap.size + 2) (by omega)) (fun q9 h8 h9 => e28 q9 (by omega))
  have o19 := o19.kept (e28 (s.heap.size + 8) (by omega))
  have o22 := o22.kept (e28 (s.heap.size + 9) (by omega))
  have o25 := o25.kept (e28 (s.heap.size + 10) (by omega))
  refine lv_dup hx hb dX5_init_105 rfl ?_
  refine n_callN (As := []) C N28 (c_X2_init l D (s.heap.size + 11)) kNe_X5_65 kM_X5_65 (Or.inr (by omega)) o28 dX5_init_106 hl.1 rfl cd_X2_init ⟨Nat.le_of_ble_eq_true rfl, Nat.le_of_ble_eq_true rfl, Nat.le_of_ble_eq_true rfl, Nat.le_of_ble_eq_true rfl, Nat.le_of_ble_eq_true rfl⟩ (fun H29 L29 N29 e29 q29 => ?_)
  have o18 := o18.kept (e29 a0 (by omega) (by omega))
  have o27 := (e29 s.heap.size (by omega) (by omega)).trans o27
  have o3 := (e29 (s.heap.size + 1) (by omega) (by omega)).trans o3
  have fs9 := fs9.kept (e29 (s.heap.size + 2) (by omega) (by omega)) (fun q9 h8 h9 => e29 q9 (by omega) (by omega))
  have o19 := o19.kept (e29 (s.heap.size + 8) (by omega) (by omega))
  have o22 := o22.kept (e29 (s.heap.size + 9) (by omega) (by omega))
  have o25 := o25.kept (e29 (s.heap.size + 10) (by omega) (by omega))
  have o28 := q29
  refine n_as (t := 3) (T := TX2) C N29 o27 o28 (by omega) rfl rfl (by decide) (by decide) dX5_init_109 (fun H30 L30 N30 o30 e30 => ?_)
  have o18 := o18.kept (e30 a0 (by omega))
  have o3 := (e30 (s.heap.size + 1) (by omega)).trans o3
  have fs9 := fs9.kept (e30 (s.heap.size + 2) (by omega)) (fun q9 h8 h9 => e30 q9 (by omega))
  have o19 := o19.kept (e30 (s.heap.size + 8) (by omega))
  have o22 := o22.kept (e30 (s.heap.size + 9) (by omega))
  have o25 := o25.kept (e30 (s.heap.size + 10) (by omega))
  have o28 := o28.kept (e30 (s.heap.size + 11) (by omega))
  refine lv_iinc (v := (4 : Int32)) (lv' := [(1, .int (4 : Int32)), (0, .ref a0)]) hx hb dX5_init_110 hl (k := 0) rfl (by decide) (by decide) rfl (fun ls hl => ?_)
  refine lv_goto (tgt := 91) hx hb dX5_init_113 (by decide) ?_
  refine lv_iload_n hx hb dX5_init_91 rfl (lv_at hl 0 rfl) ?_
  refine lv_bipush (v := 6) hx hb dX5_init_92 (by decide) ?_
  refine lv_icmp_ge (tgt := 116) hx hb dX5_init_94 (by decide) (fun c9 => ?_) (fun c9 => ?_)
  · exact absurd c9 (by decide)
  refine lv_aload_n hx hb dX5_init_97 rfl (lv_at hl 1 rfl) ?_
  refine n_get (T := TX5) (v := .ref s.heap.size) C o18 0 kF_X5_11 dX5_init_98 rfl (by decide) rfl rfl ?_
  refine lv_iload_n hx hb dX5_init_101 rfl (lv_at hl 0 rfl) ?_
  refine n_new (ci := 2) (T := TX2) (b := (s.heap.size + 12)) C N30 rfl kn_X5_9 dX5_init_102 rfl ⟨Nat.le_of_ble_eq_true rfl, Nat.le_of_ble_eq_true rfl⟩ (fun H31 N31 o31 e31 => ?_)
  have o18 := o18.kept (e31 a0 (by omega))
  have o30 := (e31 s.heap.size (by omega)).trans o30
  have o3 := (e31 (s.heap.size + 1) (by omega)).trans o3
  have fs9 := fs9.kept (e31 (s.heap.size + 2) (by omega)) (fun q9 h8 h9 => e31 q9 (by omega))
  have o19 := o19.kept (e31 (s.heap.size + 8) (by omega))
  have o22 := o22.kept (e31 (s.heap.size + 9) (by omega))
  have o25 := o25.kept (e31 (s.heap.size + 10) (by omega))
  have o28 := o28.kept (e31 (s.heap.size + 11) (by omega))
  refine lv_dup hx hb dX5_init_105 rfl ?_
  refine n_callN (As := []) C N31 (c_X2_init l D (s.heap.size + 12)) kNe_X5_65 kM_X5_65 (Or.inr (by omega)) o31 dX5_init_106 hl.1 rfl cd_X2_init ⟨Nat.le_of_ble_eq_true rfl, Nat.le_of_ble_eq_true rfl, Nat.le_of_ble_eq_true rfl, Nat.le_of_ble_eq_true rfl, Nat.le_of_ble_eq_true rfl⟩ (fun H32 L32 N32 e32 q32 => ?_)
  have o18 := o18.kept (e32 a0 (by omega) (by omega))
  have o30 := (e32 s.heap.size (by omega) (by omega)).trans o30
  have o3 := (e32 (s.heap.size + 1) (by omega) (by omega)).trans o3
  have fs9 := fs9.kept (e32 (s.heap.size + 2) (by omega) (by omega)) (fun q9 h8 h9 => e32 q9 (by omega) (by omega))
  have o19 := o19.kept (e32 (s.heap.size + 8) (by omega) (by omega))
  have o22 := o22.kept (e32 (s.heap.size + 9) (by omega) (by omega))
  have o25 := o25.kept (e32 (s.heap.size + 10) (by omega) (by omega))
  have o28 := o28.kept (e32 (s.heap.size + 11) (by omega) (by omega))
  have o31 := q32
  refine n_as (t := 3) (T := TX2) C N32 o30 o31 (by omega) rfl rfl (by decide) (by decide) dX5_init_109 (fun H33 L33 N33 o33 e33 => ?_)
  have o18 := o18.kept (e33 a0 (by omega))
  have o3 := (e33 (s.heap.size + 1) (by omega)).trans o3
  have fs9 := fs9.kept (e33 (s.heap.size + 2) (by omega)) (fun q9 h8 h9 => e33 q9 (by omega))
  have o19 := o19.kept (e33 (s.heap.size + 8) (by omega))
  have o22 := o22.kept (e33 (s.heap.size + 9) (by omega))
  have o25 := o25.kept (e33 (s.heap.size + 10) (by omega))
  have o28 := o28.kept (e33 (s.heap.size + 11) (by omega))
  have o31 := o31.kept (e33 (s.heap.size + 12) (by omega))
  refine lv_iinc (v := (5 : Int32)) (lv' := [(1, .int (5 : Int32)), (0, .ref a0)]) hx hb dX5_init_110 hl (k := 0) rfl (by decide) (by decide) rfl (fun ls hl => ?_)
  refine lv_goto (tgt := 91) hx hb dX5_init_113 (by decide) ?_
  refine lv_iload_n hx hb dX5_init_91 rfl (lv_at hl 0 rfl) ?_
  refine lv_bipush (v := 6) hx hb dX5_init_92 (by decide) ?_
  refine lv_icmp_ge (tgt := 116) hx hb dX5_init_94 (by decide) (fun c9 => ?_) (fun c9 => ?_)
  · exact absurd c9 (by decide)
  refine lv_aload_n hx hb dX5_init_97 rfl (lv_at hl 1 rfl) ?_
  refine n_get (T := TX5) (v := .ref s.heap.size) C o18 0 kF_X5_11 dX5_init_98 rfl (by decide) rfl rfl ?_
  refine lv_iload_n hx hb dX5_init_101 rfl (lv_at hl 0 rfl) ?_
  refine n_new (ci := 2) (T := TX2) (b := (s.heap.size + 13)) C N33 rfl kn_X5_9 dX5_init_102 rfl ⟨Nat.le_of_ble_eq_true rfl, Nat.le_of_ble_eq_true rfl⟩ (fun H34 N34 o34 e34 => ?_)
  have o18 := o18.kept (e34 a0 (by omega))
  have o33 := (e34 s.heap.size (by omega)).trans o33
  have o3 := (e34 (s.heap.size + 1) (by omega)).trans o3
  have fs9 := fs9.kept (e34 (s.heap.size + 2) (by omega)) (fun q9 h8 h9 => e34 q9 (by omega))
  have o19 := o19.kept (e34 (s.heap.size + 8) (by omega))
  have o22 := o22.kept (e34 (s.heap.size + 9) (by omega))
  have o25 := o25.kept (e34 (s.heap.size + 10) (by omega))
  have o28 := o28.kept (e34 (s.heap.size + 11) (by omega))
  have o31 := o31.kept (e34 (s.heap.size + 12) (by omega))
  refine lv_dup hx hb dX5_init_105 rfl ?_
  refine n_callN (As := []) C N34 (c_X2_init l D (s.heap.size + 13)) kNe_X5_65 kM_X5_65 (Or.inr (by omega)) o34 dX5_init_106 hl.1 rfl cd_X2_init ⟨Nat.le_of_ble_eq_true rfl, Nat.le_of_ble_eq_true rfl, Nat.le_of_ble_eq_true rfl, Nat.le_of_ble_eq_true rfl, Nat.le_of_ble_eq_true rfl⟩ (fun H35 L35 N35 e35 q35 => ?_)
  have o18 := o18.kept (e35 a0 (by omega) (by omega))
  have o33 := (e35 s.heap.size (by omega) (by omega)).trans o33
  have o3 := (e35 (s.heap.size + 1) (by omega) (by omega)).trans o3
  have fs9 := fs9.kept (e35 (s.heap.size + 2) (by omega) (by omega)) (fun q9 h8 h9 => e35 q9 (by omega) (by omega))
  have o19 := o19.kept (e35 (s.heap.size + 8) (by omega) (by omega))
  have o22 := o22.kept (e35 (s.heap.size + 9) (by omega) (by omega))
  have o25 := o25.kept (e35 (s.heap.size + 10) (by omega) (by omega))
  have o28 := o28.kept (e35 (s.heap.size + 11) (by omega) (by omega))
  have o31 := o31.kept (e35 (s.heap.size + 12) (by omega) (by omega))
  have o34 := q35
  refine n_as (t := 3) (T := TX2) C N35 o33 o34 (by omega) rfl rfl (by decide) (by decide) dX5_init_109 (fun H36 L36 N36 o36 e36 => ?_)
  have o18 := o18.kept (e36 a0 (by omega))
  have o3 := (e36 (s.heap.size + 1) (by omega)).trans o3
  have fs9 := fs9.kept (e36 (s.heap.size + 2) (by omega)) (fun q9 h8 h9 => e36 q9 (by omega))
  have o19 := o19.kept (e36 (s.heap.size + 8) (by omega))
  have o22 := o22.kept (e36 (s.heap.size + 9) (by omega))
  have o25 := o25.kept (e36 (s.heap.size + 10) (by omega))
  have o28 := o28.kept (e36 (s.heap.size + 11) (by omega))
  have o31 := o31.kept (e36 (s.heap.size + 12) (by omega))
  have o34 := o34.kept (e36 (s.heap.size + 13) (by omega))
  refine lv_iinc (v := (6 : Int32)) (lv' := [(1, .int (6 : Int32)), (0, .ref a0)]) hx hb dX5_init_110 hl (k := 0) rfl (by decide) (by decide) rfl (fun ls hl => ?_)
  refine lv_goto (tgt := 91) hx hb dX5_init_113 (by decide) ?_
  refine lv_iload_n hx hb dX5_init_91 rfl (lv_at hl 0 rfl) ?_
  refine lv_bipush (v := 6) hx hb dX5_init_92 (by decide) ?_
  refine lv_icmp_ge (tgt := 116) hx hb dX5_init_94 (by decide) (fun c9 => ?_) (fun c9 => ?_)
  rotate_left
  · exact absurd (by decide) c9
  refine lv_iconst (v := 0) hx hb dX5_init_116 (by decide) ?_
  refine lv_istore_n (lv' := [(1, .int (0 : Int32)), (0, .ref a0)]) hx hb dX5_init_117 rfl hl (by decide) rfl (fun ls hl => ?_)
  refine lv_iload_n hx hb dX5_init_118 rfl (lv_at hl 0 rfl) ?_
  refine lv_bipush (v := 12) hx hb dX5_init_119 (by decide) ?_
  refine lv_icmp_ge (tgt := 143) hx hb dX5_init_121 (by decide) (fun c9 => ?_) (fun c9 => ?_)
  · exact absurd c9 (by decide)
  refine lv_aload_n hx hb dX5_init_124 rfl (lv_at hl 1 rfl) ?_
  refine n_get (T := TX5) (v := .ref (s.heap.size + 1)) C o18 1 kF_X5_19 dX5_init_125 rfl (by decide) rfl rfl ?_
  refine lv_iload_n hx hb dX5_init_128 rfl (lv_at hl 0 rfl) ?_
  refine n_new (ci := 1) (T := TX1) (b := (s.heap.size + 14)) C N36 rfl kn_X5_17 dX5_init_129 rfl ⟨Nat.le_of_ble_eq_true rfl, Nat.le_of_ble_eq_true rfl⟩ (fun H37 N37 o37 e37 => ?_)
  have o18 := o18.kept (e37 a0 (by omega))
  have o36 := (e37 s.heap.size (by omega)).trans o36
  have o3 := (e37 (s.heap.size + 1) (by omega)).trans o3
  have fs9 := fs9.kept (e37 (s.heap.size + 2) (by omega)) (fun q9 h8 h9 => e37 q9 (by omega))
  have o19 := o19.kept (e37 (s.heap.size + 8) (by omega))
  have o22 := o22.kept (e37 (s.heap.size + 9) (by omega))
  have o25 := o25.kept (e37 (s.heap.size + 10) (by omega))
  have o28 := o28.kept (e37 (s.heap.size + 11) (by omega))
  have o31 := o31.kept (e37 (s.heap.size + 12) (by omega))
  have o34 := o34.kept (e37 (s.heap.size + 13) (by omega))
  refine lv_dup hx hb dX5_init_132 rfl ?_
  refine n_callN (As := []) C N37 (c_X1_init l D (s.heap.size + 14)) kNe_X5_66 kM_X5_66 (Or.inr (by omega)) o37 dX5_init_133 hl.1 rfl cd_X1_init ⟨Nat.le_of_ble_eq_true rfl, Nat.le_of_ble_eq_true rfl, Nat.le_of_ble_eq_true rfl, Nat.le_of_ble_eq_true rfl, Nat.le_of_ble_eq_true rfl⟩ (fun H38 L38 N38 e38 q38 => ?_)
  have o18 := o18.kept (e38 a0 (by omega) (by omega))
  have o36 := (e38 s.heap.size (by omega) (by omega)).trans o36
  have o3 := (e38 (s.heap.size + 1) (by omega) (by omega)).trans o3
  have fs9 := fs9.kept (e38 (s.heap.size + 2) (by omega) (by omega)) (fun q9 h8 h9 => e38 q9 (by omega) (by omega))
  have o19 := o19.kept (e38 (s.heap.size + 8) (by omega) (by omega))
  have o22 := o22.kept (e38 (s.heap.size + 9) (by omega) (by omega))
  have o25 := o25.kept (e38 (s.heap.size + 10) (by omega) (by omega))
  have o28 := o28.kept (e38 (s.heap.size + 11) (by omega) (by omega))
  have o31 := o31.kept (e38 (s.heap.size + 12) (by omega) (by omega))
  have o34 := o34.kept (e38 (s.heap.size + 13) (by omega) (by omega))
  have o37 := q38
  refine n_as (t := 4) (T := TX1) C N38 o3 o37 (by omega) rfl rfl (by decide) (by decide) dX5_init_136 (fun H39 L39 N39 o39 e39 => ?_)
  have o18 := o18.kept (e39 a0 (by omega))
  have o36 := (e39 s.heap.size (by omega)).trans o36
  have fs9 := fs9.kept (e39 (s.heap.size + 2) (by omega)) (fun q9 h8 h9 => e39 q9 (by omega))
  have o19 := o19.kept (e39 (s.heap.size + 8) (by omega))
  have o22 := o22.kept (e39 (s.heap.size + 9) (by omega))
  have o25 := o25.kept (e39 (s.heap.size + 10) (by omega))
  have o28 := o28.kept (e39 (s.heap.size + 11) (by omega))
  have o31 := o31.kept (e39 (s.heap.size + 12) (by omega))
  have o34 := o34.kept (e39 (s.heap.size + 13) (by omega))
  have o37 := o37.kept (e39 (s.heap.size + 14) (by omega))
  refine lv_iinc (v := (1 : Int32)) (lv' := [(1, .int (1 : Int32)), (0, .ref a0)]) hx hb dX5_init_137 hl (k := 0) rfl (by decide) (by decide) rfl (fun ls hl => ?_)
  refine lv_goto (tgt := 118) hx hb dX5_init_140 (by decide) ?_
  refine lv_iload_n hx hb dX5_init_118 rfl (lv_at hl 0 rfl) ?_
  refine lv_bipush (v := 12) hx hb dX5_init_119 (by decide) ?_
  refine lv_icmp_ge (tgt := 143) hx hb dX5_init_121 (by decide) (fun c9 => ?_) (fun c9 => ?_)
  · exact absurd c9 (by decide)
  refine lv_aload_n hx hb dX5_init_124 rfl (lv_at hl 1 rfl) ?_
  refine n_get (T := TX5) (v := .ref (s.heap.size + 1)) C o18 1 kF_X5_19 dX5_init_125 rfl (by decide) rfl rfl ?_
  refine lv_iload_n hx hb dX5_init_128 rfl (lv_at hl 0 rfl) ?_
  refine n_new (ci := 1) (T := TX1) (b := (s.heap.size + 15)) C N39 rfl kn_X5_17 dX5_init_129 rfl ⟨Nat.le_of_ble_eq_true rfl, Nat.le_of_ble_eq_true rfl⟩ (fun H40 N40 o40 e40 => ?_)
  have o18 := o18.kept (e40 a0 (by omega))
  have o36 := (e40 s.heap.size (by omega)).trans o36
  have o39 := (e40 (s.heap.size + 1) (by omega)).trans o39
  have fs9 := fs9.kept (e40 (s.heap.size + 2) (by omega)) (fun q9 h8 h9 => e40 q9 (by omega))
  have o19 := o19.kept (e40 (s.heap.size + 8) (by omega))
  have o22 := o22.kept (e40 (s.heap.size + 9) (by omega))
  have o25 := o25.kept (e40 (s.heap.size + 10) (by omega))
  have o28 := o28.kept (e40 (s.heap.size + 11) (by omega))
  have o31 := o31.kept (e40 (s.heap.size + 12) (by omega))
  have o34 := o34.kept (e40 (s.heap.size + 13) (by omega))
  have o37 := o37.kept (e40 (s.heap.size + 14) (by omega))
  refine lv_dup hx hb dX5_init_132 rfl ?_
  refine n_callN (As := []) C N40 (c_X1_init l D (s.heap.size + 15)) kNe_X5_66 kM_X5_66 (Or.inr (by omega)) o40 dX5_init_133 hl.1 rfl cd_X1_init ⟨Nat.le_of_ble_eq_true rfl, Nat.le_of_ble_eq_true rfl, Nat.le_of_ble_eq_true rfl, Nat.le_of_ble_eq_true rfl, Nat.le_of_ble_eq_true rfl⟩ (fun H41 L41 N41 e41 q41 => ?_)
  have o18 := o18.kept (e41 a0 (by omega) (by omega))
  have o36 := (e41 s.heap.size (by omega) (by omega)).trans o36
  have o39 := (e41 (s.heap.size + 1) (by omega) (by omega)).trans o39
  have fs9 := fs9.kept (e41 (s.heap.size + 2) (by omega) (by omega)) (fun q9 h8 h9 => e41 q9 (by omega) (by omega))
  have o19 := o19.kept (e41 (s.heap.size + 8) (by omega) (by omega))
  have o22 := o22.kept (e41 (s.heap.size + 9) (by omega) (by omega))
  have o25 := o25.kept (e41 (s.heap.size + 10) (by omega) (by omega))
  have o28 := o28.kept (e41 (s.heap.size + 11) (by omega) (by omega))
  have o31 := o31.kept (e41 (s.heap.size + 12) (by omega) (by omega))
  have o34 := o34.kept (e41 (s.heap.size + 13) (by omega) (by omega))
  have o37 := o37.kept (e41 (s.heap.size + 14) (by omega) (by omega))
  have o40 := q41
  refine n_as (t := 4) (T := TX1) C N41 o39 o40 (by omega) rfl rfl (by decide) (by decide) dX5_init_136 (fun H42 L42 N42 o42 e42 => ?_)
  have o18 := o18.kept (e42 a0 (by omega))
  have o36 := (e42 s.heap.size (by omega)).trans o36
  have fs9 := fs9.kept (e42 (s.heap.size + 2) (by omega)) (fun q9 h8 h9 => e42 q9 (by omega))
  have o19 := o19.kept (e42 (s.heap.size + 8) (by omega))
  have o22 := o22.kept (e42 (s.heap.size + 9) (by omega))
  have o25 := o25.kept (e42 (s.heap.size + 10) (by omega))
  have o28 := o28.kept (e42 (s.heap.size + 11) (by omega))
  have o31 := o31.kept (e42 (s.heap.size + 12) (by omega))
  have o34 := o34.kept (e42 (s.heap.size + 13) (by omega))
  have o37 := o37.kept (e42 (s.heap.size + 14) (by omega))
  have o40 := o40.kept (e42 (s.heap.size + 15) (by omega))
  refine lv_iinc (v := (2 : Int32)) (lv' := [(1, .int (2 : Int32)), (0, .ref a0)]) hx hb dX5_init_137 hl (k := 0) rfl (by decide) (by decide) rfl (fun ls hl => ?_)
  refine lv_goto (tgt := 118) hx hb dX5_init_140 (by decide) ?_
  refine lv_iload_n hx hb dX5_init_118 rfl (lv_at hl 0 rfl) ?_
  refine lv_bipush (v := 12) hx hb dX5_init_119 (by decide) ?_
  refine lv_icmp_ge (tgt := 143) hx hb dX5_init_121 (by decide) (fun c9 => ?_) (fun c9 => ?_)
  · exact absurd c9 (by decide)
  refine lv_aload_n hx hb dX5_init_124 rfl (lv_at hl 1 rfl) ?_
  refine n_get (T := TX5) (v := .ref (s.heap.size + 1)) C o18 1 kF_X5_19 dX5_init_125 rfl (by decide) rfl rfl ?_
  refine lv_iload_n hx hb dX5_init_128 rfl (lv_at hl 0 rfl) ?_
  refine n_new (ci := 1) (T := TX1) (b := (s.heap.size + 16)) C N42 rfl kn_X5_17 dX5_init_129 rfl ⟨Nat.le_of_ble_eq_true rfl, Nat.le_of_ble_eq_true rfl⟩ (fun H43 N43 o43 e43 => ?_)
  have o18 := o18.kept (e43 a0 (by omega))
  have o36 := (e43 s.heap.size (by omega)).trans o36
  have o42 := (e43 (s.heap.size + 1) (by omega)).trans o42
  have fs9 := fs9.kept (e43 (s.heap.size + 2) (by omega)) (fun q9 h8 h9 => e43 q9 (by omega))
  have o19 := o19.kept (e43 (s.heap.size + 8) (by omega))
  have o22 := o22.kept (e43 (s.heap.size + 9) (by omega))
  have o25 := o25.kept (e43 (s.heap.size + 10) (by omega))
  have o28 := o28.kept (e43 (s.heap.size + 11) (by omega))
  have o31 := o31.kept (e43 (s.heap.size + 12) (by omega))
  have o34 := o34.kept (e43 (s.heap.size + 13) (by omega))
  have o37 := o37.kept (e43 (s.heap.size + 14) (by omega))
  have o40 := o40.kept (e43 (s.heap.size + 15) (by omega))
  refine lv_dup hx hb dX5_init_132 rfl ?_
  refine n_callN (As := []) C N43 (c_X1_init l D (s.heap.size + 16)) kNe_X5_66 kM_X5_66 (Or.inr (by omega)) o43 dX5_init_133 hl.1 rfl cd_X1_init ⟨Nat.le_of_ble_eq_true rfl, Nat.le_of_ble_eq_true rfl, Nat.le_of_ble_eq_true rfl, Nat.le_of_ble_eq_true rfl, Nat.le_of_ble_eq_true rfl⟩ (fun H44 L44 N44 e44 q44 => ?_)
  have o18 := o18.kept (e44 a0 (by omega) (by omega))
  have o36 := (e44 s.heap.size (by omega) (by omega)).trans o36
  have o42 := (e44 (s.heap.size + 1) (by omega) (by omega)).trans o42
  have fs9 := fs9.kept (e44 (s.heap.size + 2) (by omega) (by omega)) (fun q9 h8 h9 => e44 q9 (by omega) (by omega))
  have o19 := o19.kept (e44 (s.heap.size + 8) (by omega) (by omega))
  have o22 := o22.kept (e44 (s.heap.size + 9) (by omega) (by omega))
  have o25 := o25.kept (e44 (s.heap.size + 10) (by omega) (by omega))
  have o28 := o28.kept (e44 (s.heap.size + 11) (by omega) (by omega))
  have o31 := o31.kept (e44 (s.heap.size + 12) (by omega) (by omega))
  have o34 := o34.kept (e44 (s.heap.size + 13) (by omega) (by omega))
  have o37 := o37.kept (e44 (s.heap.size + 14) (by omega) (by omega))
  have o40 := o40.kept (e44 (s.heap.size + 15) (by omega) (by omega))
  have o43 := q44
  refine n_as (t := 4) (T := TX1) C N44 o42 o43 (by omega) rfl rfl (by decide) (by decide) dX5_init_136 (fun H45 L45 N45 o45 e45 => ?_)
  have o18 := o18.kept (e45 a0 (by omega))
  have o36 := (e45 s.heap.size (by omega)).trans o36
  have fs9 := fs9.kept (e45 (s.heap.size + 2) (by omega)) (fun q9 h8 h9 => e45 q9 (by omega))
  have o19 := o19.kept (e45 (s.heap.size + 8) (by omega))
  have o22 := o22.kept (e45 (s.heap.size + 9) (by omega))
  have o25 := o25.kept (e45 (s.heap.size + 10) (by omega))
  have o28 := o28.kept (e45 (s.heap.size + 11) (by omega))
  have o31 := o31.kept (e45 (s.heap.size + 12) (by omega))
  have o34 := o34.kept (e45 (s.heap.size + 13) (by omega))
  have o37 := o37.kept (e45 (s.heap.size + 14) (by omega))
  have o40 := o40.kept (e45 (s.heap.size + 15) (by omega))
  have o43 := o43.kept (e45 (s.heap.size + 16) (by omega))
  refine lv_iinc (v := (3 : Int32)) (lv' := [(1, .int (3 : Int32)), (0, .ref a0)]) hx hb dX5_init_137 hl (k := 0) rfl (by decide) (by decide) rfl (fun ls hl => ?_)
  refine lv_goto (tgt := 118) hx hb dX5_init_140 (by decide) ?_
  refine lv_iload_n hx hb dX5_init_118 rfl (lv_at hl 0 rfl) ?_
  refine lv_bipush (v := 12) hx hb dX5_init_119 (by decide) ?_
  refine lv_icmp_ge (tgt := 143) hx hb dX5_init_121 (by decide) (fun c9 => ?_) (fun c9 => ?_)
  · exact absurd c9 (by decide)
  refine lv_aload_n hx hb dX5_init_124 rfl (lv_at hl 1 rfl) ?_
  refine n_get (T := TX5) (v := .ref (s.heap.size + 1)) C o18 1 kF_X5_19 dX5_init_125 rfl (by decide) rfl rfl ?_
  refine lv_iload_n hx hb dX5_init_128 rfl (lv_at hl 0 rfl) ?_
  refine n_new (ci := 1) (T := TX1) (b := (s.heap.size + 17)) C N45 rfl kn_X5_17 dX5_init_129 rfl ⟨Nat.le_of_ble_eq_true rfl, Nat.le_of_ble_eq_true rfl⟩ (fun H46 N46 o46 e46 => ?_)
  have o18 := o18.kept (e46 a0 (by omega))
  have o36 := (e46 s.heap.size (by omega)).trans o36
  have o45 := (e46 (s.heap.size + 1) (by omega)).trans o45
  have fs9 := fs9.kept (e46 (s.heap.size + 2) (by omega)) (fun q9 h8 h9 => e46 q9 (by omega))
  have o19 := o19.kept (e46 (s.heap.size + 8) (by omega))
  have o22 := o22.kept (e46 (s.heap.size + 9) (by omega))
  have o25 := o25.kept (e46 (s.heap.size + 10) (by omega))
  have o28 := o28.kept (e46 (s.heap.size + 11) (by omega))
  have o31 := o31.kept (e46 (s.heap.size + 12) (by omega))
  have o34 := o34.kept (e46 (s.heap.size + 13) (by omega))
  have o37 := o37.kept (e46 (s.heap.size + 14) (by omega))
  have o40 := o40.kept (e46 (s.heap.size + 15) (by omega))
  have o43 := o43.kept (e46 (s.heap.size + 16) (by omega))
  refine lv_dup hx hb dX5_init_132 rfl ?_
  refine n_callN (As := []) C N46 (c_X1_init l D (s.heap.size + 17)) kNe_X5_66 kM_X5_66 (Or.inr (by omega)) o46 dX5_init_133 hl.1 rfl cd_X1_init ⟨Nat.le_of_ble_eq_true rfl, Nat.le_of_ble_eq_true rfl, Nat.le_of_ble_eq_true rfl, Nat.le_of_ble_eq_true rfl, Nat.le_of_ble_eq_true rfl⟩ (fun H47 L47 N47 e47 q47 => ?_)
  have o18 := o18.kept (e47 a0 (by omega) (by omega))
  have o36 := (e47 s.heap.size (by omega) (by omega)).trans o36
  have o45 := (e47 (s.heap.size + 1) (by omega) (by omega)).trans o45
  have fs9 := fs9.kept (e47 (s.heap.size + 2) (by omega) (by omega)) (fun q9 h8 h9 => e47 q9 (by omega) (by omega))
  have o19 := o19.kept (e47 (s.heap.size + 8) (by omega) (by omega))
  have o22 := o22.kept (e47 (s.heap.size + 9) (by omega) (by omega))
  have o25 := o25.kept (e47 (s.heap.size + 10) (by omega) (by omega))
  have o28 := o28.kept (e47 (s.heap.size + 11) (by omega) (by omega))
  have o31 := o31.kept (e47 (s.heap.size + 12) (by omega) (by omega))
  have o34 := o34.kept (e47 (s.heap.size + 13) (by omega) (by omega))
  have o37 := o37.kept (e47 (s.heap.size + 14) (by omega) (by omega))
  have o40 := o40.kept (e47 (s.heap.size + 15) (by omega) (by omega))
  have o43 := o43.kept (e47 (s.heap.size + 16) (by omega) (by omega))
  have o46 := q47
  refine n_as (t := 4) (T := TX1) C N47 o45 o46 (by omega) rfl rfl (by decide) (by decide) dX5_init_136 (fun H48 L48 N48 o48 e48 => ?_)
  have o18 := o18.kept (e48 a0 (by omega))
  have o36 := (e48 s.heap.size (by omega)).trans o36
  have fs9 := fs9.kept (e48 (s.heap.size + 2) (by omega)) (fun q9 h8 h9 => e48 q9 (by omega))
  have o19 := o19.kept (e48 (s.heap.size + 8) (by omega))
  have o22 := o22.kept (e48 (s.heap.size + 9) (by omega))
  have o25 := o25.kept (e48 (s.heap.size + 10) (by omega))
  have o28 := o28.kept (e48 (s.heap.size + 11) (by omega))
  have o31 := o31.kept (e48 (s.heap.size + 12) (by omega))
  have o34 := o34.kept (e48 (s.heap.size + 13) (by omega))
  have o37 := o37.kept (e48 (s.heap.size + 14) (by omega))
  have o40 := o40.kept (e48 (s.heap.size + 15) (by omega))
  have o43 := o43.kept (e48 (s.heap.size + 16) (by omega))
  have o46 := o46.kept (e48 (s.heap.size + 17) (by omega))
  refine lv_iinc (v := (4 : Int32)) (lv' := [(1, .int (4 : Int32)), (0, .ref a0)]) hx hb dX5_init_137 hl (k := 0) rfl (by decide) (by decide) rfl (fun ls hl => ?_)
  refine lv_goto (tgt := 118) hx hb dX5_init_140 (by decide) ?_
  refine lv_iload_n hx hb dX5_init_118 rfl (lv_at hl 0 rfl) ?_
  refine lv_bipush (v := 12) hx hb dX5_init_119 (by decide) ?_
  refine lv_icmp_ge (tgt := 143) hx hb dX5_init_121 (by decide) (fun c9 => ?_) (fun c9 => ?_)
  · exact absurd c9 (by decide)
  refine lv_aload_n hx hb dX5_init_124 rfl (lv_at hl 1 rfl) ?_
  refine n_get (T := TX5) (v := .ref (s.heap.size + 1)) C o18 1 kF_X5_19 dX5_init_125 rfl (by decide) rfl rfl ?_
  refine lv_iload_n hx hb dX5_init_128 rfl (lv_at hl 0 rfl) ?_
  refine n_new (ci := 1) (T := TX1) (b := (s.heap.size + 18)) C N48 rfl kn_X5_17 dX5_init_129 rfl ⟨Nat.le_of_ble_eq_true rfl, Nat.le_of_ble_eq_true rfl⟩ (fun H49 N49 o49 e49 => ?_)
  have o18 := o18.kept (e49 a0 (by omega))
  have o36 := (e49 s.heap.size (by omega)).trans o36
  have o48 := (e49 (s.heap.size + 1) (by omega)).trans o48
  have fs9 := fs9.kept (e49 (s.heap.size + 2) (by omega)) (fun q9 h8 h9 => e49 q9 (by omega))
  have o19 := o19.kept (e49 (s.heap.size + 8) (by omega))
  have o22 := o22.kept (e49 (s.heap.size + 9) (by omega))
  have o25 := o25.kept (e49 (s.heap.size + 10) (by omega))
  have o28 := o28.kept (e49 (s.heap.size + 11) (by omega))
  have o31 := o31.kept (e49 (s.heap.size + 12) (by omega))
  have o34 := o34.kept (e49 (s.heap.size + 13) (by omega))
  have o37 := o37.kept (e49 (s.heap.size + 14) (by omega))
  have o40 := o40.kept (e49 (s.heap.size + 15) (by omega))
  have o43 := o43.kept (e49 (s.heap.size + 16) (by omega))
  have o46 := o46.kept (e49 (s.heap.size + 17) (by omega))
  refine lv_dup hx hb dX5_init_132 rfl ?_
  refine n_callN (As := []) C N49 (c_X1_init l D (s.heap.size + 18)) kNe_X5_66 kM_X5_66 (Or.inr (by omega)) o49 dX5_init_133 hl.1 rfl cd_X1_init ⟨Nat.le_of_ble_eq_true rfl, Nat.le_of_ble_eq_true rfl, Nat.le_of_ble_eq_true rfl, Nat.le_of_ble_eq_true rfl, Nat.le_of_ble_eq_true rfl⟩ (fun H50 L50 N50 e50 q50 => ?_)
  have o18 := o18.kept (e50 a0 (by omega) (by omega))
  have o36 := (e50 s.heap.size (by omega) (by omega)).trans o36
  have o48 := (e50 (s.heap.size + 1) (by omega) (by omega)).trans o48
  have fs9 := fs9.kept (e50 (s.heap.size + 2) (by omega) (by omega)) (fun q9 h8 h9 => e50 q9 (by omega) (by omega))
  have o19 := o19.kept (e50 (s.heap.size + 8) (by omega) (by omega))
  have o22 := o22.kept (e50 (s.heap.size + 9) (by omega) (by omega))
  have o25 := o25.kept (e50 (s.heap.size + 10) (by omega) (by omega))
  have o28 := o28.kept (e50 (s.heap.size + 11) (by omega) (by omega))
  have o31 := o31.kept (e50 (s.heap.size + 12) (by omega) (by omega))
  have o34 := o34.kept (e50 (s.heap.size + 13) (by omega) (by omega))
  have o37 := o37.kept (e50 (s.heap.size + 14) (by omega) (by omega))
  have o40 := o40.kept (e50 (s.heap.size + 15) (by omega) (by omega))
  have o43 := o43.kept (e50 (s.heap.size + 16) (by omega) (by omega))
  have o46 := o46.kept (e50 (s.heap.size + 17) (by omega) (by omega))
  have o49 := q50
  refine n_as (t := 4) (T := TX1) C N50 o48 o49 (by omega) rfl rfl (by decide) (by decide) dX5_init_136 (fun H51 L51 N51 o51 e51 => ?_)
  have o18 := o18.kept (e51 a0 (by omega))
  have o36 := (e51 s.heap.size (by omega)).trans o36
  have fs9 := fs9.kept (e51 (s.heap.size + 2) (by omega)) (fun q9 h8 h9 => e51 q9 (by omega))
  have o19 := o19.kept (e51 (s.heap.size + 8) (by omega))
  have o22 := o22.kept (e51 (s.heap.size + 9) (by omega))
  have o25 := o25.kept (e51 (s.heap.size + 10) (by omega))
  have o28 := o28.kept (e51 (s.heap.size + 11) (by omega))
  have o31 := o31.kept (e51 (s.heap.size + 12) (by omega))
  have o34 := o34.kept (e51 (s.heap.size + 13) (by omega))
  have o37 := o37.kept (e51 (s.heap.size + 14) (by omega))
  have o40 := o40.kept (e51 (s.heap.size + 15) (by omega))
  have o43 := o43.kept (e51 (s.heap.size + 16) (by omega))
  have o46 := o46.kept (e51 (s.heap.size + 17) (by omega))
  have o49 := o49.kept (e51 (s.heap.size + 18) (by omega))
  refine lv_iinc (v := (5 : Int32)) (lv' := [(1, .int (5 : Int32)), (0, .ref a0)]) hx hb dX5_init_137 hl (k := 0) rfl (by decide) (by decide) rfl (fun ls hl => ?_)
  refine lv_goto (tgt := 118) hx hb dX5_init_140 (by decide) ?_
  refine lv_iload_n hx hb dX5_init_118 rfl (lv_at hl 0 rfl) ?_
  refine lv_bipush (v := 12) hx hb dX5_init_119 (by decide) ?_
  refine lv_icmp_ge (tgt := 143) hx hb dX5_init_121 (by decide) (fun c9 => ?_) (fun c9 => ?_)
  · exact absurd c9 (by decide)
  refine lv_aload_n hx hb dX5_init_124 rfl (lv_at hl 1 rfl) ?_
  refine n_get (T := TX5) (v := .ref (s.heap.size + 1)) C o18 1 kF_X5_19 dX5_init_125 rfl (by decide) rfl rfl ?_
  refine lv_iload_n hx hb dX5_init_128 rfl (lv_at hl 0 rfl) ?_
  refine n_new (ci := 1) (T := TX1) (b := (s.heap.size + 19)) C N51 rfl kn_X5_17 dX5_init_129 rfl ⟨Nat.le_of_ble_eq_true rfl, Nat.le_of_ble_eq_true rfl⟩ (fun H52 N52 o52 e52 => ?_)
  have o18 := o18.kept (e52 a0 (by omega))
  have o36 := (e52 s.heap.size (by omega)).trans o36
  have o51 := (e52 (s.heap.size + 1) (by omega)).trans o51
  have fs9 := fs9.kept (e52 (s.heap.size + 2) (by omega)) (fun q9 h8 h9 => e52 q9 (by omega))
  have o19 := o19.kept (e52 (s.heap.size + 8) (by omega))
  have o22 := o22.kept (e52 (s.heap.size + 9) (by omega))
  have o25 := o25.kept (e52 (s.heap.size + 10) (by omega))
  have o28 := o28.kept (e52 (s.heap.size + 11) (by omega))
  have o31 := o31.kept (e52 (s.heap.size + 12) (by omega))
  have o34 := o34.kept (e52 (s.heap.size + 13) (by omega))
  have o37 := o37.kept (e52 (s.heap.size + 14) (by omega))
  have o40 := o40.kept (e52 (s.heap.size + 15) (by omega))
  have o43 := o43.kept (e52 (s.heap.size + 16) (by omega))
  have o46 := o46.kept (e52 (s.heap.size + 17) (by omega))
  have o49 := o49.kept (e52 (s.heap.size + 18) (by omega))
  refine lv_dup hx hb dX5_init_132 rfl ?_
  refine n_callN (As := []) C N52 (c_X1_init l D (s.heap.size + 19)) kNe_X5_66 kM_X5_66 (Or.inr (by omega)) o52 dX5_init_133 hl.1 rfl cd_X1_init ⟨Nat.le_of_ble_eq_true rfl, Nat.le_of_ble_eq_true rfl, Nat.le_of_ble_eq_true rfl, Nat.le_of_ble_eq_true rfl, Nat.le_of_ble_eq_true rfl⟩ (fun H53 L53 N53 e53 q53 => ?_)
  have o18 := o18.kept (e53 a0 (by omega) (by omega))
  have o36 := (e53 s.heap.size (by omega) (by omega)).trans o36
  have o51 := (e53 (s.heap.size + 1) (by omega) (by omega)).trans o51
  have fs9 := fs9.kept (e53 (s.heap.size + 2) (by omega) (by omega)) (fun q9 h8 h9 => e53 q9 (by omega) (by omega))
  have o19 := o19.kept (e53 (s.heap.size + 8) (by omega) (by omega))
  have o22 := o22.kept (e53 (s.heap.size + 9) (by omega) (by omega))
  have o25 := o25.kept (e53 (s.heap.size + 10) (by omega) (by omega))
  have o28 := o28.kept (e53 (s.heap.size + 11) (by omega) (by omega))
  have o31 := o31.kept (e53 (s.heap.size + 12) (by omega) (by omega))
  have o34 := o34.kept (e53 (s.heap.size + 13) (by omega) (by omega))
  have o37 := o37.kept (e53 (s.heap.size + 14) (by omega) (by omega))
  have o40 := o40.kept (e53 (s.heap.size + 15) (by omega) (by omega))
  have o43 := o43.kept (e53 (s.heap.size + 16) (by omega) (by omega))
  have o46 := o46.kept (e53 (s.heap.size + 17) (by omega) (by omega))
  have o49 := o49.kept (e53 (s.heap.size + 18) (by omega) (by omega))
  have o52 := q53
  refine n_as (t := 4) (T := TX1) C N53 o51 o52 (by omega) rfl rfl (by decide) (by decide) dX5_init_136 (fun H54 L54 N54 o54 e54 => ?_)
  have o18 := o18.kept (e54 a0 (by omega))
  have o36 := (e54 s.heap.size (by omega)).trans o36
  have fs9 := fs9.kept (e54 (s.heap.size + 2) (by omega)) (fun q9 h8 h9 => e54 q9 (by omega))
  have o19 := o19.kept (e54 (s.heap.size + 8) (by omega))
  have o22 := o22.kept (e54 (s.heap.size + 9) (by omega))
  have o25 := o25.kept (e54 (s.heap.size + 10) (by omega))
  have o28 := o28.kept (e54 (s.heap.size + 11) (by omega))
  have o31 := o31.kept (e54 (s.heap.size + 12) (by omega))
  have o34 := o34.kept (e54 (s.heap.size + 13) (by omega))
  have o37 := o37.kept (e54 (s.heap.size + 14) (by omega))
  have o40 := o40.kept (e54 (s.heap.size + 15) (by omega))
  have o43 := o43.kept (e54 (s.heap.size + 16) (by omega))
  have o46 := o46.kept (e54 (s.heap.size + 17) (by omega))
  have o49 := o49.kept (e54 (s.heap.size + 18) (by omega))
  have o52 := o52.kept (e54 (s.heap.size + 19) (by omega))
  refine lv_iinc (v := (6 : Int32)) (lv' := [(1, .int (6 : Int32)), (0, .ref a0)]) hx hb dX5_init_137 hl (k := 0) rfl (by decide) (by decide) rfl (fun ls hl => ?_)
  refine lv_goto (tgt := 118) hx hb dX5_init_140 (by decide) ?_
  refine lv_iload_n hx hb dX5_init_118 rfl (lv_at hl 0 rfl) ?_
  refine lv_bipush (v := 12) hx hb dX5_init_119 (by decide) ?_
  refine lv_icmp_ge (tgt := 143) hx hb dX5_init_121 (by decide) (fun c9 => ?_) (fun c9 => ?_)
  · exact absurd c9 (by decide)
  refine lv_aload_n hx hb dX5_init_124 rfl (lv_at hl 1 rfl) ?_
  refine n_get (T := TX5) (v := .ref (s.heap.size + 1)) C o18 1 kF_X5_19 dX5_init_125 rfl (by decide) rfl rfl ?_
  refine lv_iload_n hx hb dX5_init_128 rfl (lv_at hl 0 rfl) ?_
  refine n_new (ci := 1) (T := TX1) (b := (s.heap.size + 20)) C N54 rfl kn_X5_17 dX5_init_129 rfl ⟨Nat.le_of_ble_eq_true rfl, Nat.le_of_ble_eq_true rfl⟩ (fun H55 N55 o55 e55 => ?_)
  have o18 := o18.kept (e55 a0 (by omega))
  have o36 := (e55 s.heap.size (by omega)).trans o36
  have o54 := (e55 (s.heap.size + 1) (by omega)).trans o54
  have fs9 := fs9.kept (e55 (s.heap.size + 2) (by omega)) (fun q9 h8 h9 => e55 q9 (by omega))
  have o19 := o19.kept (e55 (s.heap.size + 8) (by omega))
  have o22 := o22.kept (e55 (s.heap.size + 9) (by omega))
  have o25 := o25.kept (e55 (s.heap.size + 10) (by omega))
  have o28 := o28.kept (e55 (s.heap.size + 11) (by omega))
  have o31 := o31.kept (e55 (s.heap.size + 12) (by omega))
  have o34 := o34.kept (e55 (s.heap.size + 13) (by omega))
  have o37 := o37.kept (e55 (s.heap.size + 14) (by omega))
  have o40 := o40.kept (e55 (s.heap.size + 15) (by omega))
  have o43 := o43.kept (e55 (s.heap.size + 16) (by omega))
  have o46 := o46.kept (e55 (s.heap.size + 17) (by omega))
  have o49 := o49.kept (e55 (s.heap.size + 18) (by omega))
  have o52 := o52.kept (e55 (s.heap.size + 19) (by omega))
  refine lv_dup hx hb dX5_init_132 rfl ?_
  refine n_callN (As := []) C N55 (c_X1_init l D (s.heap.size + 20)) kNe_X5_66 kM_X5_66 (Or.inr (by omega)) o55 dX5_init_133 hl.1 rfl cd_X1_init ⟨Nat.le_of_ble_eq_true rfl, Nat.le_of_ble_eq_true rfl, Nat.le_of_ble_eq_true rfl, Nat.le_of_ble_eq_true rfl, Nat.le_of_ble_eq_true rfl⟩ (fun H56 L56 N56 e56 q56 => ?_)
  have o18 := o18.kept (e56 a0 (by omega) (by omega))
  have o36 := (e56 s.heap.size (by omega) (by omega)).trans o36
  have o54 := (e56 (s.heap.size + 1) (by omega) (by omega)).trans o54
  have fs9 := fs9.kept (e56 (s.heap.size + 2) (by omega) (by omega)) (fun q9 h8 h9 => e56 q9 (by omega) (by omega))
  have o19 := o19.kept (e56 (s.heap.size + 8) (by omega) (by omega))
  have o22 := o22.kept (e56 (s.heap.size + 9) (by omega) (by omega))
  have o25 := o25.kept (e56 (s.heap.size + 10) (by omega) (by omega))
  have o28 := o28.kept (e56 (s.heap.size + 11) (by omega) (by omega))
  have o31 := o31.kept (e56 (s.heap.size + 12) (by omega) (by omega))
  have o34 := o34.kept (e56 (s.heap.size + 13) (by omega) (by omega))
  have o37 := o37.kept (e56 (s.heap.size + 14) (by omega) (by omega))
  have o40 := o40.kept (e56 (s.heap.size + 15) (by omega) (by omega))
  have o43 := o43.kept (e56 (s.heap.size + 16) (by omega) (by omega))
  have o46 := o46.kept (e56 (s.heap.size + 17) (by omega) (by omega))
  have o49 := o49.kept (e56 (s.heap.size + 18) (by omega) (by omega))
  have o52 := o52.kept (e56 (s.heap.size + 19) (by omega) (by omega))
  have o55 := q56
  refine n_as (t := 4) (T := TX1) C N56 o54 o55 (by omega) rfl rfl (by decide) (by decide) dX5_init_136 (fun H57 L57 N57 o57 e57 => ?_)
  have o18 := o18.kept (e57 a0 (by omega))
  have o36 := (e57 s.heap.size (by omega)).trans o36
  have fs9 := fs9.kept (e57 (s.heap.size + 2) (by omega)) (fun q9 h8 h9 => e57 q9 (by omega))
  have o19 := o19.kept (e57 (s.heap.size + 8) (by omega))
  have o22 := o22.kept (e57 (s.heap.size + 9) (by omega))
  have o25 := o25.kept (e57 (s.heap.size + 10) (by omega))
  have o28 := o28.kept (e57 (s.heap.size + 11) (by omega))
  have o31 := o31.kept (e57 (s.heap.size + 12) (by omega))
  have o34 := o34.kept (e57 (s.heap.size + 13) (by omega))
  have o37 := o37.kept (e57 (s.heap.size + 14) (by omega))
  have o40 := o40.kept (e57 (s.heap.size + 15) (by omega))
  have o43 := o43.kept (e57 (s.heap.size + 16) (by omega))
  have o46 := o46.kept (e57 (s.heap.size + 17) (by omega))
  have o49 := o49.kept (e57 (s.heap.size + 18) (by omega))
  have o52 := o52.kept (e57 (s.heap.size + 19) (by omega))
  have o55 := o55.kept (e57 (s.heap.size + 20) (by omega))
  refine lv_iinc (v := (7 : Int32)) (lv' := [(1, .int (7 : Int32)), (0, .ref a0)]) hx hb dX5_init_137 hl (k := 0) rfl (by decide) (by decide) rfl (fun ls hl => ?_)
  refine lv_goto (tgt := 118) hx hb dX5_init_140 (by decide) ?_
  refine lv_iload_n hx hb dX5_init_118 rfl (lv_at hl 0 rfl) ?_
  refine lv_bipush (v := 12) hx hb dX5_init_119 (by decide) ?_
  refine lv_icmp_ge (tgt := 143) hx hb dX5_init_121 (by decide) (fun c9 => ?_) (fun c9 => ?_)
  · exact absurd c9 (by decide)
  refine lv_aload_n hx hb dX5_init_124 rfl (lv_at hl 1 rfl) ?_
  refine n_get (T := TX5) (v := .ref (s.heap.size + 1)) C o18 1 kF_X5_19 dX5_init_125 rfl (by decide) rfl rfl ?_
  refine lv_iload_n hx hb dX5_init_128 rfl (lv_at hl 0 rfl) ?_
  refine n_new (ci := 1) (T := TX1) (b := (s.heap.size + 21)) C N57 rfl kn_X5_17 dX5_init_129 rfl ⟨Nat.le_of_ble_eq_true rfl, Nat.le_of_ble_eq_true rfl⟩ (fun H58 N58 o58 e58 => ?_)
  have o18 := o18.kept (e58 a0 (by omega))
  have o36 := (e58 s.heap.size (by omega)).trans o36
  have o57 := (e58 (s.heap.size + 1) (by omega)).trans o57
  have fs9 := fs9.kept (e58 (s.heap.size + 2) (by omega)) (fun q9 h8 h9 => e58 q9 (by omega))
  have o19 := o19.kept (e58 (s.heap.size + 8) (by omega))
  have o22 := o22.kept (e58 (s.heap.size + 9) (by omega))
  have o25 := o25.kept (e58 (s.heap.size + 10) (by omega))
  have o28 := o28.kept (e58 (s.heap.size + 11) (by omega))
  have o31 := o31.kept (e58 (s.heap.size + 12) (by omega))
  have o34 := o34.kept (e58 (s.heap.size + 13) (by omega))
  have o37 := o37.kept (e58 (s.heap.size + 14) (by omega))
  have o40 := o40.kept (e58 (s.heap.size + 15) (by omega))
  have o43 := o43.kept (e58 (s.heap.size + 16) (by omega))
  have o46 := o46.kept (e58 (s.heap.size + 17) (by omega))
  have o49 := o49.kept (e58 (s.heap.size + 18) (by omega))
  have o52 := o52.kept (e58 (s.heap.size + 19) (by omega))
  have o55 := o55.kept (e58 (s.heap.size + 20) (by omega))
  refine lv_dup hx hb dX5_init_132 rfl ?_
  refine n_callN (As := []) C N58 (c_X1_init l D (s.heap.size + 21)) kNe_X5_66 kM_X5_66 (Or.inr (by omega)) o58 dX5_init_133 hl.1 rfl cd_X1_init ⟨Nat.le_of_ble_eq_true rfl, Nat.le_of_ble_eq_true rfl, Nat.le_of_ble_eq_true rfl, Nat.le_of_ble_eq_true rfl, Nat.le_of_ble_eq_true rfl⟩ (fun H59 L59 N59 e59 q59 => ?_)
  have o18 := o18.kept (e59 a0 (by omega) (by omega))
  have o36 := (e59 s.heap.size (by omega) (by omega)).trans o36
  have o57 := (e59 (s.heap.size + 1) (by omega) (by omega)).trans o57
  have fs9 := fs9.kept (e59 (s.heap.size + 2) (by omega) (by omega)) (fun q9 h8 h9 => e59 q9 (by omega) (by omega))
  have o19 := o19.kept (e59 (s.heap.size + 8) (by omega) (by omega))
  have o22 := o22.kept (e59 (s.heap.size + 9) (by omega) (by omega))
  have o25 := o25.kept (e59 (s.heap.size + 10) (by omega) (by omega))
  have o28 := o28.kept (e59 (s.heap.size + 11) (by omega) (by omega))
  have o31 := o31.kept (e59 (s.heap.size + 12) (by omega) (by omega))
  have o34 := o34.kept (e59 (s.heap.size + 13) (by omega) (by omega))
  have o37 := o37.kept (e59 (s.heap.size + 14) (by omega) (by omega))
  have o40 := o40.kept (e59 (s.heap.size + 15) (by omega) (by omega))
  have o43 := o43.kept (e59 (s.heap.size + 16) (by omega) (by omega))
  have o46 := o46.kept (e59 (s.heap.size + 17) (by omega) (by omega))
  have o49 := o49.kept (e59 (s.heap.size + 18) (by omega) (by omega))
  have o52 := o52.kept (e59 (s.heap.size + 19) (by omega) (by omega))
  have o55 := o55.kept (e59 (s.heap.size + 20) (by omega) (by omega))
  have o58 := q59
  refine n_as (t := 4) (T := TX1) C N59 o57 o58 (by omega) rfl rfl (by decide) (by decide) dX5_init_136 (fun H60 L60 N60 o60 e60 => ?_)
  have o18 := o18.kept (e60 a0 (by omega))
  have o36 := (e60 s.heap.size (by omega)).trans o36
  have fs9 := fs9.kept (e60 (s.heap.size + 2) (by omega)) (fun q9 h8 h9 => e60 q9 (by omega))
  have o19 := o19.kept (e60 (s.heap.size + 8) (by omega))
  have o22 := o22.kept (e60 (s.heap.size + 9) (by omega))
  have o25 := o25.kept (e60 (s.heap.size + 10) (by omega))
  have o28 := o28.kept (e60 (s.heap.size + 11) (by omega))
  have o31 := o31.kept (e60 (s.heap.size + 12) (by omega))
  have o34 := o34.kept (e60 (s.heap.size + 13) (by omega))
  have o37 := o37.kept (e60 (s.heap.size + 14) (by omega))
  have o40 := o40.kept (e60 (s.heap.size + 15) (by omega))
  have o43 := o43.kept (e60 (s.heap.size + 16) (by omega))
  have o46 := o46.kept (e60 (s.heap.size + 17) (by omega))
  have o49 := o49.kept (e60 (s.heap.size + 18) (by omega))
  have o52 := o52.kept (e60 (s.heap.size + 19) (by omega))
  have o55 := o55.kept (e60 (s.heap.size + 20) (by omega))
  have o58 := o58.kept (e60 (s.heap.size + 21) (by omega))
  refine lv_iinc (v := (8 : Int32)) (lv' := [(1, .int (8 : Int32)), (0, .ref a0)]) hx hb dX5_init_137 hl (k := 0) rfl (by decide) (by decide) rfl (fun ls hl => ?_)
  refine lv_goto (tgt := 118) hx hb dX5_init_140 (by decide) ?_
  refine lv_iload_n hx hb dX5_init_118 rfl (lv_at hl 0 rfl) ?_
  refine lv_bipush (v := 12) hx hb dX5_init_119 (by decide) ?_
  refine lv_icmp_ge (tgt := 143) hx hb dX5_init_121 (by decide) (fun c9 => ?_) (fun c9 => ?_)
  · exact absurd c9 (by decide)
  refine lv_aload_n hx hb dX5_init_124 rfl (lv_at hl 1 rfl) ?_
  refine n_get (T := TX5) (v := .ref (s.heap.size + 1)) C o18 1 kF_X5_19 dX5_init_125 rfl (by decide) rfl rfl ?_
  refine lv_iload_n hx hb dX5_init_128 rfl (lv_at hl 0 rfl) ?_
  refine n_new (ci := 1) (T := TX1) (b := (s.heap.size + 22)) C N60 rfl kn_X5_17 dX5_init_129 rfl ⟨Nat.le_of_ble_eq_true rfl, Nat.le_of_ble_eq_true rfl⟩ (fun H61 N61 o61 e61 => ?_)
  have o18 := o18.kept (e61 a0 (by omega))
  have o36 := (e61 s.heap.size (by omega)).trans o36
  have o60 := (e61 (s.heap.size + 1) (by omega)).trans o60
  have fs9 := fs9.kept (e61 (s.heap.size + 2) (by omega)) (fun q9 h8 h9 => e61 q9 (by omega))
  have o19 := o19.kept (e61 (s.heap.size + 8) (by omega))
  have o22 := o22.kept (e61 (s.heap.size + 9) (by omega))
  have o25 := o25.kept (e61 (s.heap.size + 10) (by omega))
  have o28 := o28.kept (e61 (s.heap.size + 11) (by omega))
  have o31 := o31.kept (e61 (s.heap.size + 12) (by omega))
  have o34 := o34.kept (e61 (s.heap.size + 13) (by omega))
  have o37 := o37.kept (e61 (s.heap.size + 14) (by omega))
  have o40 := o40.kept (e61 (s.heap.size + 15) (by omega))
  have o43 := o43.kept (e61 (s.heap.size + 16) (by omega))
  have o46 := o46.kept (e61 (s.heap.size + 17) (by omega))
  have o49 := o49.kept (e61 (s.heap.size + 18) (by omega))
  have o52 := o52.kept (e61 (s.heap.size + 19) (by omega))
  have o55 := o55.kept (e61 (s.heap.size + 20) (by omega))
  have o58 := o58.kept (e61 (s.heap.size + 21) (by omega))
  refine lv_dup hx hb dX5_init_132 rfl ?_
  refine n_callN (As := []) C N61 (c_X1_init l D (s.heap.size + 22)) kNe_X5_66 kM_X5_66 (Or.inr (by omega)) o61 dX5_init_133 hl.1 rfl cd_X1_init ⟨Nat.le_of_ble_eq_true rfl, Nat.le_of_ble_eq_true rfl, Nat.le_of_ble_eq_true rfl, Nat.le_of_ble_eq_true rfl, Nat.le_of_ble_eq_true rfl⟩ (fun H62 L62 N62 e62 q62 => ?_)
  have o18 := o18.kept (e62 a0 (by omega) (by omega))
  have o36 := (e62 s.heap.size (by omega) (by omega)).trans o36
  have o60 := (e62 (s.heap.size + 1) (by omega) (by omega)).trans o60
  have fs9 := fs9.kept (e62 (s.heap.size + 2) (by omega) (by omega)) (fun q9 h8 h9 => e62 q9 (by omega) (by omega))
  have o19 := o19.kept (e62 (s.heap.size + 8) (by omega) (by omega))
  have o22 := o22.kept (e62 (s.heap.size + 9) (by omega) (by omega))
  have o25 := o25.kept (e62 (s.heap.size + 10) (by omega) (by omega))
  have o28 := o28.kept (e62 (s.heap.size + 11) (by omega) (by omega))
  have o31 := o31.kept (e62 (s.heap.size + 12) (by omega) (by omega))
  have o34 := o34.kept (e62 (s.heap.size + 13) (by omega) (by omega))
  have o37 := o37.kept (e62 (s.heap.size + 14) (by omega) (by omega))
  have o40 := o40.kept (e62 (s.heap.size + 15) (by omega) (by omega))
  have o43 := o43.kept (e62 (s.heap.size + 16) (by omega) (by omega))
  have o46 := o46.kept (e62 (s.heap.size + 17) (by omega) (by omega))
  have o49 := o49.kept (e62 (s.heap.size + 18) (by omega) (by omega))
  have o52 := o52.kept (e62 (s.heap.size + 19) (by omega) (by omega))
  have o55 := o55.kept (e62 (s.heap.size + 20) (by omega) (by omega))
  have o58 := o58.kept (e62 (s.heap.size + 21) (by omega) (by omega))
  have o61 := q62
  refine n_as (t := 4) (T := TX1) C N62 o60 o61 (by omega) rfl rfl (by decide) (by decide) dX5_init_136 (fun H63 L63 N63 o63 e63 => ?_)
  have o18 := o18.kept (e63 a0 (by omega))
  have o36 := (e63 s.heap.size (by omega)).trans o36
  have fs9 := fs9.kept (e63 (s.heap.size + 2) (by omega)) (fun q9 h8 h9 => e63 q9 (by omega))
  have o19 := o19.kept (e63 (s.heap.size + 8) (by omega))
  have o22 := o22.kept (e63 (s.heap.size + 9) (by omega))
  have o25 := o25.kept (e63 (s.heap.size + 10) (by omega))
  have o28 := o28.kept (e63 (s.heap.size + 11) (by omega))
  have o31 := o31.kept (e63 (s.heap.size + 12) (by omega))
  have o34 := o34.kept (e63 (s.heap.size + 13) (by omega))
  have o37 := o37.kept (e63 (s.heap.size + 14) (by omega))
  have o40 := o40.kept (e63 (s.heap.size + 15) (by omega))
  have o43 := o43.kept (e63 (s.heap.size + 16) (by omega))
  have o46 := o46.kept (e63 (s.heap.size + 17) (by omega))
  have o49 := o49.kept (e63 (s.heap.size + 18) (by omega))
  have o52 := o52.kept (e63 (s.heap.size + 19) (by omega))
  have o55 := o55.kept (e63 (s.heap.size + 20) (by omega))
  have o58 := o58.kept (e63 (s.heap.size + 21) (by omega))
  have o61 := o61.kept (e63 (s.heap.size + 22) (by omega))
  refine lv_iinc (v := (9 : Int32)) (lv' := [(1, .int (9 : Int32)), (0, .ref a0)]) hx hb dX5_init_137 hl (k := 0) rfl (by decide) (by decide) rfl (fun ls hl => ?_)
  refine lv_goto (tgt := 118) hx hb dX5_init_140 (by decide) ?_
  refine lv_iload_n hx hb dX5_init_118 rfl (lv_at hl 0 rfl) ?_
  refine lv_bipush (v := 12) hx hb dX5_init_119 (by decide) ?_
  refine lv_icmp_ge (tgt := 143) hx hb dX5_init_121 (by decide) (fun c9 => ?_) (fun c9 => ?_)
  · exact absurd c9 (by decide)
  refine lv_aload_n hx hb dX5_init_124 rfl (lv_at hl 1 rfl) ?_
  refine n_get (T := TX5) (v := .ref (s.heap.size + 1)) C o18 1 kF_X5_19 dX5_init_125 rfl (by decide) rfl rfl ?_
  refine lv_iload_n hx hb dX5_init_128 rfl (lv_at hl 0 rfl) ?_
  refine n_new (ci := 1) (T := TX1) (b := (s.heap.size + 23)) C N63 rfl kn_X5_17 dX5_init_129 rfl ⟨Nat.le_of_ble_eq_true rfl, Nat.le_of_ble_eq_true rfl⟩ (fun H64 N64 o64 e64 => ?_)
  have o18 := o18.kept (e64 a0 (by omega))
  have o36 := (e64 s.heap.size (by omega)).trans o36
  have o63 := (e64 (s.heap.size + 1) (by omega)).trans o63
  have fs9 := fs9.kept (e64 (s.heap.size + 2) (by omega)) (fun q9 h8 h9 => e64 q9 (by omega))
  have o19 := o19.kept (e64 (s.heap.size + 8) (by omega))
  have o22 := o22.kept (e64 (s.heap.size + 9) (by omega))
  have o25 := o25.kept (e64 (s.heap.size + 10) (by omega))
  have o28 := o28.kept (e64 (s.heap.size + 11) (by omega))
  have o31 := o31.kept (e64 (s.heap.size + 12) (by omega))
  have o34 := o34.kept (e64 (s.heap.size + 13) (by omega))
  have o37 := o37.kept (e64 (s.heap.size + 14) (by omega))
  have o40 := o40.kept (e64 (s.heap.size + 15) (by omega))
  have o43 := o43.kept (e64 (s.heap.size + 16) (by omega))
  have o46 := o46.kept (e64 (s.heap.size + 17) (by omega))
  have o49 := o49.kept (e64 (s.heap.size + 18) (by omega))
  have o52 := o52.kept (e64 (s.heap.size + 19) (by omega))
  have o55 := o55.kept (e64 (s.heap.size + 20) (by omega))
  have o58 := o58.kept (e64 (s.heap.size + 21) (by omega))
  have o61 := o61.kept (e64 (s.heap.size + 22) (by omega))
  refine lv_dup hx hb dX5_init_132 rfl ?_
  refine n_callN (As := []) C N64 (c_X1_init l D (s.heap.size + 23)) kNe_X5_66 kM_X5_66 (Or.inr (by omega)) o64 dX5_init_133 hl.1 rfl cd_X1_init ⟨Nat.le_of_ble_eq_true rfl, Nat.le_of_ble_eq_true rfl, Nat.le_of_ble_eq_true rfl, Nat.le_of_ble_eq_true rfl, Nat.le_of_ble_eq_true rfl⟩ (fun H65 L65 N65 e65 q65 => ?_)
  have o18 := o18.kept (e65 a0 (by omega) (by omega))
  have o36 := (e65 s.heap.size (by omega) (by omega)).trans o36
  have o63 := (e65 (s.heap.size + 1) (by omega) (by omega)).trans o63
  have fs9 := fs9.kept (e65 (s.heap.size + 2) (by omega) (by omega)) (fun q9 h8 h9 => e65 q9 (by omega) (by omega))
  have o19 := o19.kept (e65 (s.heap.size + 8) (by omega) (by omega))
  have o22 := o22.kept (e65 (s.heap.size + 9) (by omega) (by omega))
  have o25 := o25.kept (e65 (s.heap.size + 10) (by omega) (by omega))
  have o28 := o28.kept (e65 (s.heap.size + 11) (by omega) (by omega))
  have o31 := o31.kept (e65 (s.heap.size + 12) (by omega) (by omega))
  have o34 := o34.kept (e65 (s.heap.size + 13) (by omega) (by omega))
  have o37 := o37.kept (e65 (s.heap.size + 14) (by omega) (by omega))
  have o40 := o40.kept (e65 (s.heap.size + 15) (by omega) (by omega))
  have o43 := o43.kept (e65 (s.heap.size + 16) (by omega) (by omega))
  have o46 := o46.kept (e65 (s.heap.size + 17) (by omega) (by omega))
  have o49 := o49.kept (e65 (s.heap.size + 18) (by omega) (by omega))
  have o52 := o52.kept (e65 (s.heap.size + 19) (by omega) (by omega))
  have o55 := o55.kept (e65 (s.heap.size + 20) (by omega) (by omega))
  have o58 := o58.kept (e65 (s.heap.size + 21) (by omega) (by omega))
  have o61 := o61.kept (e65 (s.heap.size + 22) (by omega) (by omega))
  have o64 := q65
  refine n_as (t := 4) (T := TX1) C N65 o63 o64 (by omega) rfl rfl (by decide) (by decide) dX5_init_136 (fun H66 L66 N66 o66 e66 => ?_)
  have o18 := o18.kept (e66 a0 (by omega))
  have o36 := (e66 s.heap.size (by omega)).trans o36
  have fs9 := fs9.kept (e66 (s.heap.size + 2) (by omega)) (fun q9 h8 h9 => e66 q9 (by omega))
  have o19 := o19.kept (e66 (s.heap.size + 8) (by omega))
  have o22 := o22.kept (e66 (s.heap.size + 9) (by omega))
  have o25 := o25.kept (e66 (s.heap.size + 10) (by omega))
  have o28 := o28.kept (e66 (s.heap.size + 11) (by omega))
  have o31 := o31.kept (e66 (s.heap.size + 12) (by omega))
  have o34 := o34.kept (e66 (s.heap.size + 13) (by omega))
  have o37 := o37.kept (e66 (s.heap.size + 14) (by omega))
  have o40 := o40.kept (e66 (s.heap.size + 15) (by omega))
  have o43 := o43.kept (e66 (s.heap.size + 16) (by omega))
  have o46 := o46.kept (e66 (s.heap.size + 17) (by omega))
  have o49 := o49.kept (e66 (s.heap.size + 18) (by omega))
  have o52 := o52.kept (e66 (s.heap.size + 19) (by omega))
  have o55 := o55.kept (e66 (s.heap.size + 20) (by omega))
  have o58 := o58.kept (e66 (s.heap.size + 21) (by omega))
  have o61 := o61.kept (e66 (s.heap.size + 22) (by omega))
  have o64 := o64.kept (e66 (s.heap.size + 23) (by omega))
  refine lv_iinc (v := (10 : Int32)) (lv' := [(1, .int (10 : Int32)), (0, .ref a0)]) hx hb dX5_init_137 hl (k := 0) rfl (by decide) (by decide) rfl (fun ls hl => ?_)
  refine lv_goto (tgt := 118) hx hb dX5_init_140 (by decide) ?_
  refine lv_iload_n hx hb dX5_init_118 rfl (lv_at hl 0 rfl) ?_
  refine lv_bipush (v := 12) hx hb dX5_init_119 (by decide) ?_
  refine lv_icmp_ge (tgt := 143) hx hb dX5_init_121 (by decide) (fun c9 => ?_) (fun c9 => ?_)
  · exact absurd c9 (by decide)
  refine lv_aload_n hx hb dX5_init_124 rfl (lv_at hl 1 rfl) ?_
  refine n_get (T := TX5) (v := .ref (s.heap.size + 1)) C o18 1 kF_X5_19 dX5_init_125 rfl (by decide) rfl rfl ?_
  refine lv_iload_n hx hb dX5_init_128 rfl (lv_at hl 0 rfl) ?_
  refine n_new (ci := 1) (T := TX1) (b := (s.heap.size + 24)) C N66 rfl kn_X5_17 dX5_init_129 rfl ⟨Nat.le_of_ble_eq_true rfl, Nat.le_of_ble_eq_true rfl⟩ (fun H67 N67 o67 e67 => ?_)
  have o18 := o18.kept (e67 a0 (by omega))
  have o36 := (e67 s.heap.size (by omega)).trans o36
  have o66 := (e67 (s.heap.size + 1) (by omega)).trans o66
  have fs9 := fs9.kept (e67 (s.heap.size + 2) (by omega)) (fun q9 h8 h9 => e67 q9 (by omega))
  have o19 := o19.kept (e67 (s.heap.size + 8) (by omega))
  have o22 := o22.kept (e67 (s.heap.size + 9) (by omega))
  have o25 := o25.kept (e67 (s.heap.size + 10) (by omega))
  have o28 := o28.kept (e67 (s.heap.size + 11) (by omega))
  have o31 := o31.kept (e67 (s.heap.size + 12) (by omega))
  have o34 := o34.kept (e67 (s.heap.size + 13) (by omega))
  have o37 := o37.kept (e67 (s.heap.size + 14) (by omega))
  have o40 := o40.kept (e67 (s.heap.size + 15) (by omega))
  have o43 := o43.kept (e67 (s.heap.size + 16) (by omega))
  have o46 := o46.kept (e67 (s.heap.size + 17) (by omega))
  have o49 := o49.kept (e67 (s.heap.size + 18) (by omega))
  have o52 := o52.kept (e67 (s.heap.size + 19) (by omega))
  have o55 := o55.kept (e67 (s.heap.size + 20) (by omega))
  have o58 := o58.kept (e67 (s.heap.size + 21) (by omega))
  have o61 := o61.kept (e67 (s.heap.size + 22) (by omega))
  have o64 := o64.kept (e67 (s.heap.size + 23) (by omega))
  refine lv_dup hx hb dX5_init_132 rfl ?_
  refine n_callN (As := []) C N67 (c_X1_init l D (s.heap.size + 24)) kNe_X5_66 kM_X5_66 (Or.inr (by omega)) o67 dX5_init_133 hl.1 rfl cd_X1_init ⟨Nat.le_of_ble_eq_true rfl, Nat.le_of_ble_eq_true rfl, Nat.le_of_ble_eq_true rfl, Nat.le_of_ble_eq_true rfl, Nat.le_of_ble_eq_true rfl⟩ (fun H68 L68 N68 e68 q68 => ?_)
  have o18 := o18.kept (e68 a0 (by omega) (by omega))
  have o36 := (e68 s.heap.size (by omega) (by omega)).trans o36
  have o66 := (e68 (s.heap.size + 1) (by omega) (by omega)).trans o66
  have fs9 := fs9.kept (e68 (s.heap.size + 2) (by omega) (by omega)) (fun q9 h8 h9 => e68 q9 (by omega) (by omega))
  have o19 := o19.kept (e68 (s.heap.size + 8) (by omega) (by omega))
  have o22 := o22.kept (e68 (s.heap.size + 9) (by omega) (by omega))
  have o25 := o25.kept (e68 (s.heap.size + 10) (by omega) (by omega))
  have o28 := o28.kept (e68 (s.heap.size + 11) (by omega) (by omega))
  have o31 := o31.kept (e68 (s.heap.size + 12) (by omega) (by omega))
  have o34 := o34.kept (e68 (s.heap.size + 13) (by omega) (by omega))
  have o37 := o37.kept (e68 (s.heap.size + 14) (by omega) (by omega))
  have o40 := o40.kept (e68 (s.heap.size + 15) (by omega) (by omega))
  have o43 := o43.kept (e68 (s.heap.size + 16) (by omega) (by omega))
  have o46 := o46.kept (e68 (s.heap.size + 17) (by omega) (by omega))
  have o49 := o49.kept (e68 (s.heap.size + 18) (by omega) (by omega))
  have o52 := o52.kept (e68 (s.heap.size + 19) (by omega) (by omega))
  have o55 := o55.kept (e68 (s.heap.size + 20) (by omega) (by omega))
  have o58 := o58.kept (e68 (s.heap.size + 21) (by omega) (by omega))
  have o61 := o61.kept (e68 (s.heap.size + 22) (by omega) (by omega))
  have o64 := o64.kept (e68 (s.heap.size + 23) (by omega) (by omega))
  have o67 := q68
  refine n_as (t := 4) (T := TX1) C N68 o66 o67 (by omega) rfl rfl (by decide) (by decide) dX5_init_136 (fun H69 L69 N69 o69 e69 => ?_)
  have o18 := o18.kept (e69 a0 (by omega))
  have o36 := (e69 s.heap.size (by omega)).trans o36
  have fs9 := fs9.kept (e69 (s.heap.size + 2) (by omega)) (fun q9 h8 h9 => e69 q9 (by omega))
  have o19 := o19.kept (e69 (s.heap.size + 8) (by omega))
  have o22 := o22.kept (e69 (s.heap.size + 9) (by omega))
  have o25 := o25.kept (e69 (s.heap.size + 10) (by omega))
  have o28 := o28.kept (e69 (s.heap.size + 11) (by omega))
  have o31 := o31.kept (e69 (s.heap.size + 12) (by omega))
  have o34 := o34.kept (e69 (s.heap.size + 13) (by omega))
  have o37 := o37.kept (e69 (s.heap.size + 14) (by omega))
  have o40 := o40.kept (e69 (s.heap.size + 15) (by omega))
  have o43 := o43.kept (e69 (s.heap.size + 16) (by omega))
  have o46 := o46.kept (e69 (s.heap.size + 17) (by omega))
  have o49 := o49.kept (e69 (s.heap.size + 18) (by omega))
  have o52 := o52.kept (e69 (s.heap.size + 19) (by omega))
  have o55 := o55.kept (e69 (s.heap.size + 20) (by omega))
  have o58 := o58.kept (e69 (s.heap.size + 21) (by omega))
  have o61 := o61.kept (e69 (s.heap.size + 22) (by omega))
  have o64 := o64.kept (e69 (s.heap.size + 23) (by omega))
  have o67 := o67.kept (e69 (s.heap.size + 24) (by omega))
  refine lv_iinc (v := (11 : Int32)) (lv' := [(1, .int (11 : Int32)), (0, .ref a0)]) hx hb dX5_init_137 hl (k := 0) rfl (by decide) (by decide) rfl (fun ls hl => ?_)
  refine lv_goto (tgt := 118) hx hb dX5_init_140 (by decide) ?_
  refine lv_iload_n hx hb dX5_init_118 rfl (lv_at hl 0 rfl) ?_
  refine lv_bipush (v := 12) hx hb dX5_init_119 (by decide) ?_
  refine lv_icmp_ge (tgt := 143) hx hb dX5_init_121 (by decide) (fun c9 => ?_) (fun c9 => ?_)
  · exact absurd c9 (by decide)
  refine lv_aload_n hx hb dX5_init_124 rfl (lv_at hl 1 rfl) ?_
  refine n_get (T := TX5) (v := .ref (s.heap.size + 1)) C o18 1 kF_X5_19 dX5_init_125 rfl (by decide) rfl rfl ?_
  refine lv_iload_n hx hb dX5_init_128 rfl (lv_at hl 0 rfl) ?_
  refine n_new (ci := 1) (T := TX1) (b := (s.heap.size + 25)) C N69 rfl kn_X5_17 dX5_init_129 rfl ⟨Nat.le_of_ble_eq_true rfl, Nat.le_of_ble_eq_true rfl⟩ (fun H70 N70 o70 e70 => ?_)
  have o18 := o18.kept (e70 a0 (by omega))
  have o36 := (e70 s.heap.size (by omega)).trans o36
  have o69 := (e70 (s.heap.size + 1) (by omega)).trans o69
  have fs9 := fs9.kept (e70 (s.heap.size + 2) (by omega)) (fun q9 h8 h9 => e70 q9 (by omega))
  have o19 := o19.kept (e70 (s.heap.size + 8) (by omega))
  have o22 := o22.kept (e70 (s.heap.size + 9) (by omega))
  have o25 := o25.kept (e70 (s.heap.size + 10) (by omega))
  have o28 := o28.kept (e70 (s.heap.size + 11) (by omega))
  have o31 := o31.kept (e70 (s.heap.size + 12) (by omega))
  have o34 := o34.kept (e70 (s.heap.size + 13) (by omega))
  have o37 := o37.kept (e70 (s.heap.size + 14) (by omega))
  have o40 := o40.kept (e70 (s.heap.size + 15) (by omega))
  have o43 := o43.kept (e70 (s.heap.size + 16) (by omega))
  have o46 := o46.kept (e70 (s.heap.size + 17) (by omega))
  have o49 := o49.kept (e70 (s.heap.size + 18) (by omega))
  have o52 := o52.kept (e70 (s.heap.size + 19) (by omega))
  have o55 := o55.kept (e70 (s.heap.size + 20) (by omega))
  have o58 := o58.kept (e70 (s.heap.size + 21) (by omega))
  have o61 := o61.kept (e70 (s.heap.size + 22) (by omega))
  have o64 := o64.kept (e70 (s.heap.size + 23) (by omega))
  have o67 := o67.kept (e70 (s.heap.size + 24) (by omega))
  refine lv_dup hx hb dX5_init_132 rfl ?_
  refine n_callN (As := []) C N70 (c_X1_init l D (s.heap.size + 25)) kNe_X5_66 kM_X5_66 (Or.inr (by omega)) o70 dX5_init_133 hl.1 rfl cd_X1_init ⟨Nat.le_of_ble_eq_true rfl, Nat.le_of_ble_eq_true rfl, Nat.le_of_ble_eq_true rfl, Nat.le_of_ble_eq_true rfl, Nat.le_of_ble_eq_true rfl⟩ (fun H71 L71 N71 e71 q71 => ?_)
  have o18 := o18.kept (e71 a0 (by omega) (by omega))
  have o36 := (e71 s.heap.size (by omega) (by omega)).trans o36
  have o69 := (e71 (s.heap.size + 1) (by omega) (by omega)).trans o69
  have fs9 := fs9.kept (e71 (s.heap.size + 2) (by omega) (by omega)) (fun q9 h8 h9 => e71 q9 (by omega) (by omega))
  have o19 := o19.kept (e71 (s.heap.size + 8) (by omega) (by omega))
  have o22 := o22.kept (e71 (s.heap.size + 9) (by omega) (by omega))
  have o25 := o25.kept (e71 (s.heap.size + 10) (by omega) (by omega))
  have o28 := o28.kept (e71 (s.heap.size + 11) (by omega) (by omega))
  have o31 := o31.kept (e71 (s.heap.size + 12) (by omega) (by omega))
  have o34 := o34.kept (e71 (s.heap.size + 13) (by omega) (by omega))
  have o37 := o37.kept (e71 (s.heap.size + 14) (by omega) (by omega))
  have o40 := o40.kept (e71 (s.heap.size + 15) (by omega) (by omega))
  have o43 := o43.kept (e71 (s.heap.size + 16) (by omega) (by omega))
  have o46 := o46.kept (e71 (s.heap.size + 17) (by omega) (by omega))
  have o49 := o49.kept (e71 (s.heap.size + 18) (by omega) (by omega))
  have o52 := o52.kept (e71 (s.heap.size + 19) (by omega) (by omega))
  have o55 := o55.kept (e71 (s.heap.size + 20) (by omega) (by omega))
  have o58 := o58.kept (e71 (s.heap.size + 21) (by omega) (by omega))
  have o61 := o61.kept (e71 (s.heap.size + 22) (by omega) (by omega))
  have o64 := o64.kept (e71 (s.heap.size + 23) (by omega) (by omega))
  have o67 := o67.kept (e71 (s.heap.size + 24) (by omega) (by omega))
  have o70 := q71
  refine n_as (t := 4) (T := TX1) C N71 o69 o70 (by omega) rfl rfl (by decide) (by decide) dX5_init_136 (fun H72 L72 N72 o72 e72 => ?_)
  have o18 := o18.kept (e72 a0 (by omega))
  have o36 := (e72 s.heap.size (by omega)).trans o36
  have fs9 := fs9.kept (e72 (s.heap.size + 2) (by omega)) (fun q9 h8 h9 => e72 q9 (by omega))
  have o19 := o19.kept (e72 (s.heap.size + 8) (by omega))
  have o22 := o22.kept (e72 (s.heap.size + 9) (by omega))
  have o25 := o25.kept (e72 (s.heap.size + 10) (by omega))
  have o28 := o28.kept (e72 (s.heap.size + 11) (by omega))
  have o31 := o31.kept (e72 (s.heap.size + 12) (by omega))
  have o34 := o34.kept (e72 (s.heap.size + 13) (by omega))
  have o37 := o37.kept (e72 (s.heap.size + 14) (by omega))
  have o40 := o40.kept (e72 (s.heap.size + 15) (by omega))
  have o43 := o43.kept (e72 (s.heap.size + 16) (by omega))
  have o46 := o46.kept (e72 (s.heap.size + 17) (by omega))
  have o49 := o49.kept (e72 (s.heap.size + 18) (by omega))
  have o52 := o52.kept (e72 (s.heap.size + 19) (by omega))
  have o55 := o55.kept (e72 (s.heap.size + 20) (by omega))
  have o58 := o58.kept (e72 (s.heap.size + 21) (by omega))
  have o61 := o61.kept (e72 (s.heap.size + 22) (by omega))
  have o64 := o64.kept (e72 (s.heap.size + 23) (by omega))
  have o67 := o67.kept (e72 (s.heap.size + 24) (by omega))
  have o70 := o70.kept (e72 (s.heap.size + 25) (by omega))
  refine lv_iinc (v := (12 : Int32)) (lv' := [(1, .int (12 : Int32)), (0, .ref a0)]) hx hb dX5_init_137 hl (k := 0) rfl (by decide) (by decide) rfl (fun ls hl => ?_)
  refine lv_goto (tgt := 118) hx hb dX5_init_140 (by decide) ?_
  refine lv_iload_n hx hb dX5_init_118 rfl (lv_at hl 0 rfl) ?_
  refine lv_bipush (v := 12) hx hb dX5_init_119 (by decide) ?_
  refine lv_icmp_ge (tgt := 143) hx hb dX5_init_121 (by decide) (fun c9 => ?_) (fun c9 => ?_)
  rotate_left
  · exact absurd (by decide) c9
  exact n_ret hQ C N72 hr dX5_init_143 (by decide) (by decide) (⟨o18.to (fun k hk => match k, hk with | 0, _ => rfl | 1, _ => rfl | 2, _ => rfl | 3, _ => rfl | 4, _ => rfl | 5, _ => rfl | 6, _ => rfl | 7, _ => rfl | 8, _ => rfl | 9, _ => rfl | 10, _ => rfl | 11, _ => rfl | 12, _ => rfl | 13, _ => rfl | k + 14, hk => absurd hk (by omega)), o36.trans (congrArg some (arrV_congr (fun j hj => match j, hj with | 0, _ => rfl | 1, _ => rfl | 2, _ => rfl | 3, _ => rfl | 4, _ => rfl | 5, _ => rfl | j + 6, hj => absurd hj (by omega)))), o72.trans (congrArg some (arrV_congr (fun j hj => match j, hj with | 0, _ => rfl | 1, _ => rfl | 2, _ => rfl | 3, _ => rfl | 4, _ => rfl | 5, _ => rfl | 6, _ => rfl | 7, _ => rfl | 8, _ => rfl | 9, _ => rfl | 10, _ => rfl | 11, _ => rfl | j + 12, hj => absurd hj (by omega)))), fs9, fun j hj => match j, hj with | 0, _ => o19.to (fun k hk => match k, hk with | 0, _ => rfl | 1, _ => rfl | 2, _ => rfl | 3, _ => rfl | 4, _ => rfl | k + 5, hk => absurd hk (by omega)) | 1, _ => o22.to (fun k hk => match k, hk with | 0, _ => rfl | 1, _ => rfl | 2, _ => rfl | 3, _ => rfl | 4, _ => rfl | k + 5, hk => absurd hk (by omega)) | 2, _ => o25.to (fun k hk => match k, hk with | 0, _ => rfl | 1, _ => rfl | 2, _ => rfl | 3, _ => rfl | 4, _ => rfl | k + 5, hk => absurd hk (by omega)) | 3, _ => o28.to (fun k hk => match k, hk with | 0, _ => rfl | 1, _ => rfl | 2, _ => rfl | 3, _ => rfl | 4, _ => rfl | k + 5, hk => absurd hk (by omega)) | 4, _ => o31.to (fun k hk => match k, hk with | 0, _ => rfl | 1, _ => rfl | 2, _ => rfl | 3, _ => rfl | 4, _ => rfl | k + 5, hk => absurd hk (by omega)) | 5, _ => o34.to (fun k hk => match k, hk with | 0, _ => rfl | 1, _ => rfl | 2, _ => rfl | 3, _ => rfl | 4, _ => rfl | k + 5, hk => absurd hk (by omega)) | j + 6, hj => absurd hj (by omega), fun j hj => match j, hj with | 0, _ => o37.to (fun k hk => match k, hk with | 0, _ => rfl | 1, _ => rfl | 2, _ => rfl | 3, _ => rfl | 4, _ => rfl | 5, _ => rfl | k + 6, hk => absurd hk (by omega)) | 1, _ => o40.to (fun k hk => match k, hk with | 0, _ => rfl | 1, _ => rfl | 2, _ => rfl | 3, _ => rfl | 4, _ => rfl | 5, _ => rfl | k + 6, hk => absurd hk (by omega)) | 2, _ => o43.to (fun k hk => match k, hk with | 0, _ => rfl | 1, _ => rfl | 2, _ => rfl | 3, _ => rfl | 4, _ => rfl | 5, _ => rfl | k + 6, hk => absurd hk (by omega)) | 3, _ => o46.to (fun k hk => match k, hk with | 0, _ => rfl | 1, _ => rfl | 2, _ => rfl | 3, _ => rfl | 4, _ => rfl | 5, _ => rfl | k + 6, hk => absurd hk (by omega)) | 4, _ => o49.to (fun k hk => match k, hk with | 0, _ => rfl | 1, _ => rfl | 2, _ => rfl | 3, _ => rfl | 4, _ => rfl | 5, _ => rfl | k + 6, hk => absurd hk (by omega)) | 5, _ => o52.to (fun k hk => match k, hk with | 0, _ => rfl | 1, _ => rfl | 2, _ => rfl | 3, _ => rfl | 4, _ => rfl | 5, _ => rfl | k + 6, hk => absurd hk (by omega)) | 6, _ => o55.to (fun k hk => match k, hk with | 0, _ => rfl | 1, _ => rfl | 2, _ => rfl | 3, _ => rfl | 4, _ => rfl | 5, _ => rfl | k + 6, hk => absurd hk (by omega)) | 7, _ => o58.to (fun k hk => match k, hk with | 0, _ => rfl | 1, _ => rfl | 2, _ => rfl | 3, _ => rfl | 4, _ => rfl | 5, _ => rfl | k + 6, hk => absurd hk (by omega)) | 8, _ => o61.to (fun k hk => match k, hk with | 0, _ => rfl | 1, _ => rfl | 2, _ => rfl | 3, _ => rfl | 4, _ => rfl | 5, _ => rfl | k + 6, hk => absurd hk (by omega)) | 9, _ => o64.to (fun k hk => match k, hk with | 0, _ => rfl | 1, _ => rfl | 2, _ => rfl | 3, _ => rfl | 4, _ => rfl | 5, _ => rfl | k + 6, hk => absurd hk (by omega)) | 10, _ => o67.to (fun k hk => match k, hk with | 0, _ => rfl | 1, _ => rfl | 2, _ => rfl | 3, _ => rfl | 4, _ => rfl | 5, _ => rfl | k + 6, hk => absurd hk (by omega)) | 11, _ => o70.to (fun k hk => match k, hk with | 0, _ => rfl | 1, _ => rfl | 2, _ => rfl | 3, _ => rfl | 4, _ => rfl | 5, _ => rfl | k + 6, hk => absurd hk (by omega)) | j + 12, hj => absurd hj (by omega)⟩)
