
def hmV (n : Nat) : Nat → Value := fun k => match k with | 0 => .ref n | 1 => .ref (n + 2) | 2 => .ref (n + 29) | 3 => .ref (n + 56) | 4 => .ref (n + 83) | 5 => .ref (n + 409) | 6 => .ref (n + 411) | 7 => .ref (n + 412) | 8 => .int 0 | _ => .int (-1)
def HSh (D : DD) (H : Heap) (a n : Nat) : Prop := t_OB a (D.1.1 10) 10 (D.1.2 10) H (hmV n) ∧ TSh D H n (n + 1) ∧ PSh D H (n + 2) (n + 3) ∧ PSh D H (n + 29) (n + 30) ∧ PSh D H (n + 56) (n + 57) ∧ PaSh D H (n + 83) (n + 84) ∧ SSh D H (n + 409) (n + 410) (n + 2) ∧ RSh D H (n + 411) n (n + 29) ∧ LSh D H (n + 412) (n + 413) n
theorem ko_X11_1 : ∀ w ∈ ([.methodLink RX11 1 Lib.objectInit, .instanceMethod Lib.objectInit, .code Lib.objectInit ⟨#[0xb1]⟩ 1 none] : List Cond), w ∈ lw_good := mem_dec (by decide +kernel)
theorem kn_X11_7 : ∀ w ∈ ([.classLink RX11 7 RX9, .instantiable RX9 7, .initialized RX9] : List Cond), w ∈ lw_good := mem_dec (by decide +kernel)
theorem kM_X11_9 : ∀ w ∈ ([.instanceMethod yX9_init, .initialized RX9, .code yX9_init cX9_init 1 none] : List Cond), w ∈ lw_good := mem_dec (by decide +kernel)
theorem kn_X11_16 : ∀ w ∈ ([.classLink RX11 16 RX5, .instantiable RX5 14, .initialized RX5] : List Cond), w ∈ lw_good := mem_dec (by decide +kernel)
theorem kJ_X11_18 : ∀ w ∈ ([.methodLink RX11 18 yX5_init, .instanceMethod yX5_init, .initialized RX5, .code yX5_init cX5_init 2 none] : List Cond), w ∈ lw_good := mem_dec (by decide +kernel)
theorem kn_X11_29 : ∀ w ∈ ([.classLink RX11 29 RX7, .instantiable RX7 3, .initialized RX7] : List Cond), w ∈ lw_good := mem_dec (by decide +kernel)
theorem kJ_X11_31 : ∀ w ∈ ([.methodLink RX11 31 yX7_init, .instanceMethod yX7_init, .initialized RX7, .code yX7_init cX7_init 2 none] : List Cond), w ∈ lw_good := mem_dec (by decide +kernel)
theorem kn_X11_36 : ∀ w ∈ ([.classLink RX11 36 RX8, .instantiable RX8 5, .initialized RX8] : List Cond), w ∈ lw_good := mem_dec (by decide +kernel)
theorem kJ_X11_38 : ∀ w ∈ ([.methodLink RX11 38 yX8_init, .instanceMethod yX8_init, .initialized RX8, .code yX8_init cX8_init 2 none] : List Cond), w ∈ lw_good := mem_dec (by decide +kernel)
theorem kn_X11_45 : ∀ w ∈ ([.classLink RX11 45 RX6, .instantiable RX6 3, .initialized RX6] : List Cond), w ∈ lw_good := mem_dec (by decide +kernel)
theorem kJ_X11_47 : ∀ w ∈ ([.methodLink RX11 47 yX6_init, .instanceMethod yX6_init, .initialized RX6, .code yX6_init cX6_init 3 none] : List Cond), w ∈ lw_good := mem_dec (by decide +kernel)
theorem kn_X11_54 : ∀ w ∈ ([.classLink RX11 54 RX4, .instantiable RX4 5, .initialized RX4] : List Cond), w ∈ lw_good := mem_dec (by decide +kernel)
theorem kJ_X11_56 : ∀ w ∈ ([.methodLink RX11 56 yX4_init, .instanceMethod yX4_init, .initialized RX4, .code yX4_init cX4_init 2 none] : List Cond), w ∈ lw_good := mem_dec (by decide +kernel)
set_option maxRecDepth 100000 in
set_option maxHeartbeats 4000000 in
theorem c_X11_init (l : Launch) (D : DD) (a0 : Nat)   : CS l Ao D yX11_init cX11_init 1 3 414 6634 [.ref a0] a0 (fun H => t_OB a0 (D.1.1 10) 10 (D.1.2 10) H (fun k => dflt (TX11 k).2.2.1)) (fun H0 H1 => HSh D H1 a0 H0.size) := by
  refine enterS (by decide) (Nat.le_of_ble_eq_true rfl) rfl ?_
  intro p e s m args below meth c ls Q hA hQ C hr hpre hl
  have hx := C.1
  have hb := C.2.1
  have hl : lv_has ls 1 [(0, .ref a0)] := hl
  have N0 : Nf s.heap s.heap [] a0 0 := ⟨rfl, fun _ _ _ => rfl, fun _ h => nomatch h⟩
  have ob := hpre
  have a0lt : a0 < s.heap.size := by obtain ⟨c9, h9, -⟩ := ob; exact (Array.getElem?_eq_some_iff.mp h9).1
  refine lv_aload_n hx hb dX11_init_0 rfl (lv_at hl 0 rfl) ?_
  refine n_obj C ko_X11_1 hl.1 dX11_init_1 ⟨Nat.le_of_ble_eq_true rfl, Nat.le_of_ble_eq_true rfl⟩ ?_
  refine lv_aload_n hx hb dX11_init_4 rfl (lv_at hl 0 rfl) ?_
  refine n_new (ci := 9) (T := TX9) (b := s.heap.size) C N0 rfl kn_X11_7 dX11_init_5 rfl ⟨Nat.le_of_ble_eq_true rfl, Nat.le_of_ble_eq_true rfl⟩ (fun H1 N1 o1 e1 => ?_)
  have ob := ob.kept (e1 a0 (by omega))
  refine lv_dup hx hb dX11_init_8 rfl ?_
  refine n_callN (As := []) C N1 (c_X9_init l D s.heap.size) kNe_X11_9 kM_X11_9 (Or.inr (by omega)) o1 dX11_init_9 hl.1 rfl cd_X9_init ⟨Nat.le_of_ble_eq_true rfl, Nat.le_of_ble_eq_true rfl, Nat.le_of_ble_eq_true rfl, Nat.le_of_ble_eq_true rfl, Nat.le_of_ble_eq_true rfl⟩ (fun H2 L2 N2 e2 q2 => ?_)
  have ob := ob.kept (e2 a0 (by omega) (by omega))
  have z2 := q2
  rw [show H1.size = s.heap.size + 1 from N1.1] at z2
  refine n_put (T := TX11) C N2 ob 0 kF_X11_10 dX11_init_12 rfl (by decide) rfl rfl rfl rfl rfl (fun H3 L3 N3 o3 e3 => ?_)
  have z2 := z2.kept (e3 s.heap.size (by omega)) (fun q9 h8 h9 => e3 q9 (by omega))
  refine lv_aload_n hx hb dX11_init_15 rfl (lv_at hl 0 rfl) ?_
  refine n_new (ci := 5) (T := TX5) (b := (s.heap.size + 2)) C N3 rfl kn_X11_16 dX11_init_16 rfl ⟨Nat.le_of_ble_eq_true rfl, Nat.le_of_ble_eq_true rfl⟩ (fun H4 N4 o4 e4 => ?_)
  have o3 := o3.kept (e4 a0 (by omega))
  have z2 := z2.kept (e4 s.heap.size (by omega)) (fun q9 h8 h9 => e4 q9 (by omega))
  refine lv_dup hx hb dX11_init_19 rfl ?_
  refine n_call (As := []) C N4 (c_X5_init l D (s.heap.size + 2)) kJ_X11_18 (Or.inr (by omega)) o4 dX11_init_20 hl.1 rfl cd_X5_init ⟨Nat.le_of_ble_eq_true rfl, Nat.le_of_ble_eq_true rfl, Nat.le_of_ble_eq_true rfl, Nat.le_of_ble_eq_true rfl, Nat.le_of_ble_eq_true rfl⟩ (fun H5 L5 N5 e5 q5 => ?_)
  have o3 := o3.kept (e5 a0 (by omega) (by omega))
  have z2 := z2.kept (e5 s.heap.size (by omega) (by omega)) (fun q9 h8 h9 => e5 q9 (by omega) (by omega))
  have z5 := q5
  rw [show H4.size = s.heap.size + 3 from N4.1] at z5
  refine n_put (T := TX11) C N5 o3 1 kF_X11_19 dX11_init_23 rfl (by decide) rfl rfl rfl rfl rfl (fun H6 L6 N6 o6 e6 => ?_)
  have z2 := z2.kept (e6 s.heap.size (by omega)) (fun q9 h8 h9 => e6 q9 (by omega))
  have z5 := z5.kept (e6 (s.heap.size + 2) (by omega)) (fun q9 h8 h9 => e6 q9 (by omega))
  refine lv_aload_n hx hb dX11_init_26 rfl (lv_at hl 0 rfl) ?_
  refine n_new (ci := 5) (T := TX5) (b := (s.heap.size + 29)) C N6 rfl kn_X11_16 dX11_init_27 rfl ⟨Nat.le_of_ble_eq_true rfl, Nat.le_of_ble_eq_true rfl⟩ (fun H7 N7 o7 e7 => ?_)
  have o6 := o6.kept (e7 a0 (by omega))
  have z2 := z2.kept (e7 s.heap.size (by omega)) (fun q9 h8 h9 => e7 q9 (by omega))
  have z5 := z5.kept (e7 (s.heap.size + 2) (by omega)) (fun q9 h8 h9 => e7 q9 (by omega))
  refine lv_dup hx hb dX11_init_30 rfl ?_
  refine n_call (As := []) C N7 (c_X5_init l D (s.heap.size + 29)) kJ_X11_18 (Or.inr (by omega)) o7 dX11_init_31 hl.1 rfl cd_X5_init ⟨Nat.le_of_ble_eq_true rfl, Nat.le_of_ble_eq_true rfl, Nat.le_of_ble_eq_true rfl, Nat.le_of_ble_eq_true rfl, Nat.le_of_ble_eq_true rfl⟩ (fun H8 L8 N8 e8 q8 => ?_)
  have o6 := o6.kept (e8 a0 (by omega) (by omega))
  have z2 := z2.kept (e8 s.heap.size (by omega) (by omega)) (fun q9 h8 h9 => e8 q9 (by omega) (by omega))
  have z5 := z5.kept (e8 (s.heap.size + 2) (by omega) (by omega)) (fun q9 h8 h9 => e8 q9 (by omega) (by omega))
  have z8 := q8
  rw [show H7.size = s.heap.size + 30 from N7.1] at z8
  refine n_put (T := TX11) C N8 o6 2 kF_X11_23 dX11_init_34 rfl (by decide) rfl rfl rfl rfl rfl (fun H9 L9 N9 o9 e9 => ?_)
  have z2 := z2.kept (e9 s.heap.size (by omega)) (fun q9 h8 h9 => e9 q9 (by omega))
  have z5 := z5.kept (e9 (s.heap.size + 2) (by omega)) (fun q9 h8 h9 => e9 q9 (by omega))
  have z8 := z8.kept (e9 (s.heap.size + 29) (by omega)) (fun q9 h8 h9 => e9 q9 (by omega))
  refine lv_aload_n hx hb dX11_init_37 rfl (lv_at hl 0 rfl) ?_
  refine n_new (ci := 5) (T := TX5) (b := (s.heap.size + 56)) C N9 rfl kn_X11_16 dX11_init_38 rfl ⟨Nat.le_of_ble_eq_true rfl, Nat.le_of_ble_eq_true rfl⟩ (fun H10 N10 o10 e10 => ?_)
  have o9 := o9.kept (e10 a0 (by omega))
  have z2 := z2.kept (e10 s.heap.size (by omega)) (fun q9 h8 h9 => e10 q9 (by omega))
  have z5 := z5.kept (e10 (s.heap.size + 2) (by omega)) (fun q9 h8 h9 => e10 q9 (by omega))
  have z8 := z8.kept (e10 (s.heap.size + 29) (by omega)) (fun q9 h8 h9 => e10 q9 (by omega))
  refine lv_dup hx hb dX11_init_41 rfl ?_
  refine n_call (As := []) C N10 (c_X5_init l D (s.heap.size + 56)) kJ_X11_18 (Or.inr (by omega)) o10 dX11_init_42 hl.1 rfl cd_X5_init ⟨Nat.le_of_ble_eq_true rfl, Nat.le_of_ble_eq_true rfl, Nat.le_of_ble_eq_true rfl, Nat.le_of_ble_eq_true rfl, Nat.le_of_ble_eq_true rfl⟩ (fun H11 L11 N11 e11 q11 => ?_)
  have o9 := o9.kept (e11 a0 (by omega) (by omega))
  have z2 := z2.kept (e11 s.heap.size (by omega) (by omega)) (fun q9 h8 h9 => e11 q9 (by omega) (by omega))
  have z5 := z5.kept (e11 (s.heap.size + 2) (by omega) (by omega)) (fun q9 h8 h9 => e11 q9 (by omega) (by omega))
  have z8 := z8.kept (e11 (s.heap.size + 29) (by omega) (by omega)) (fun q9 h8 h9 => e11 q9 (by omega) (by omega))
  have z11 := q11
  rw [show H10.size = s.heap.size + 57 from N10.1] at z11
  refine n_put (T := TX11) C N11 o9 3 kF_X11_26 dX11_init_45 rfl (by decide) rfl rfl rfl rfl rfl (fun H12 L12 N12 o12 e12 => ?_)
  have z2 := z2.kept (e12 s.heap.size (by omega)) (fun q9 h8 h9 => e12 q9 (by omega))
  have z5 := z5.kept (e12 (s.heap.size + 2) (by omega)) (fun q9 h8 h9 => e12 q9 (by omega))
  have z8 := z8.kept (e12 (s.heap.size + 29) (by omega)) (fun q9 h8 h9 => e12 q9 (by omega))
  have z11 := z11.kept (e12 (s.heap.size + 56) (by omega)) (fun q9 h8 h9 => e12 q9 (by omega))
  refine lv_aload_n hx hb dX11_init_48 rfl (lv_at hl 0 rfl) ?_
  refine n_new (ci := 7) (T := TX7) (b := (s.heap.size + 83)) C N12 rfl kn_X11_29 dX11_init_49 rfl ⟨Nat.le_of_ble_eq_true rfl, Nat.le_of_ble_eq_true rfl⟩ (fun H13 N13 o13 e13 => ?_)
  have o12 := o12.kept (e13 a0 (by omega))
  have z2 := z2.kept (e13 s.heap.size (by omega)) (fun q9 h8 h9 => e13 q9 (by omega))
  have z5 := z5.kept (e13 (s.heap.size + 2) (by omega)) (fun q9 h8 h9 => e13 q9 (by omega))
  have z8 := z8.kept (e13 (s.heap.size + 29) (by omega)) (fun q9 h8 h9 => e13 q9 (by omega))
  have z11 := z11.kept (e13 (s.heap.size + 56) (by omega)) (fun q9 h8 h9 => e13 q9 (by omega))
  refine lv_dup hx hb dX11_init_52 rfl ?_
  refine n_call (As := []) C N13 (c_X7_init l D (s.heap.size + 83)) kJ_X11_31 (Or.inr (by omega)) o13 dX11_init_53 hl.1 rfl cd_X7_init ⟨Nat.le_of_ble_eq_true rfl, Nat.le_of_ble_eq_true rfl, Nat.le_of_ble_eq_true rfl, Nat.le_of_ble_eq_true rfl, Nat.le_of_ble_eq_true rfl⟩ (fun H14 L14 N14 e14 q14 => ?_)
  have o12 := o12.kept (e14 a0 (by omega) (by omega))
  have z2 := z2.kept (e14 s.heap.size (by omega) (by omega)) (fun q9 h8 h9 => e14 q9 (by omega) (by omega))
  have z5 := z5.kept (e14 (s.heap.size + 2) (by omega) (by omega)) (fun q9 h8 h9 => e14 q9 (by omega) (by omega))
  have z8 := z8.kept (e14 (s.heap.size + 29) (by omega) (by omega)) (fun q9 h8 h9 => e14 q9 (by omega) (by omega))
  have z11 := z11.kept (e14 (s.heap.size + 56) (by omega) (by omega)) (fun q9 h8 h9 => e14 q9 (by omega) (by omega))
  have z14 := q14
  rw [show H13.size = s.heap.size + 84 from N13.1] at z14
  refine n_put (T := TX11) C N14 o12 4 kF_X11_32 dX11_init_56 rfl (by decide) rfl rfl rfl rfl rfl (fun H15 L15 N15 o15 e15 => ?_)
  have z2 := z2.kept (e15 s.heap.size (by omega)) (fun q9 h8 h9 => e15 q9 (by omega))
  have z5 := z5.kept (e15 (s.heap.size + 2) (by omega)) (fun q9 h8 h9 => e15 q9 (by omega))
  have z8 := z8.kept (e15 (s.heap.size + 29) (by omega)) (fun q9 h8 h9 => e15 q9 (by omega))
  have z11 := z11.kept (e15 (s.heap.size + 56) (by omega)) (fun q9 h8 h9 => e15 q9 (by omega))
  have z14 := z14.kept (e15 (s.heap.size + 83) (by omega)) (fun q9 h8 h9 => e15 q9 (by omega))
  refine lv_aload_n hx hb dX11_init_59 rfl (lv_at hl 0 rfl) ?_
  refine n_new (ci := 8) (T := TX8) (b := (s.heap.size + 409)) C N15 rfl kn_X11_36 dX11_init_60 rfl ⟨Nat.le_of_ble_eq_true rfl, Nat.le_of_ble_eq_true rfl⟩ (fun H16 N16 o16 e16 => ?_)
  have o15 := o15.kept (e16 a0 (by omega))
  have z2 := z2.kept (e16 s.heap.size (by omega)) (fun q9 h8 h9 => e16 q9 (by omega))
  have z5 := z5.kept (e16 (s.heap.size + 2) (by omega)) (fun q9 h8 h9 => e16 q9 (by omega))
  have z8 := z8.kept (e16 (s.heap.size + 29) (by omega)) (fun q9 h8 h9 => e16 q9 (by omega))
  have z11 := z11.kept (e16 (s.heap.size + 56) (by omega)) (fun q9 h8 h9 => e16 q9 (by omega))
  have z14 := z14.kept (e16 (s.heap.size + 83) (by omega)) (fun q9 h8 h9 => e16 q9 (by omega))
  refine lv_dup hx hb dX11_init_63 rfl ?_
  refine lv_aload_n hx hb dX11_init_64 rfl (lv_at hl 0 rfl) ?_
  refine n_get (T := TX11) (v := .ref (s.heap.size + 2)) C o15 1 kF_X11_19 dX11_init_65 rfl (by decide) rfl rfl ?_
  refine n_call (As := [.ref (s.heap.size + 2)]) C N16 (c_X8_init l D (s.heap.size + 409) (s.heap.size + 2)) kJ_X11_38 (Or.inr (by omega)) o16 dX11_init_68 hl.1 rfl cd_X8_init ⟨Nat.le_of_ble_eq_true rfl, Nat.le_of_ble_eq_true rfl, Nat.le_of_ble_eq_true rfl, Nat.le_of_ble_eq_true rfl, Nat.le_of_ble_eq_true rfl⟩ (fun H17 L17 N17 e17 q17 => ?_)
  have o15 := o15.kept (e17 a0 (by omega) (by omega))
  have z2 := z2.kept (e17 s.heap.size (by omega) (by omega)) (fun q9 h8 h9 => e17 q9 (by omega) (by omega))
  have z5 := z5.kept (e17 (s.heap.size + 2) (by omega) (by omega)) (fun q9 h8 h9 => e17 q9 (by omega) (by omega))
  have z8 := z8.kept (e17 (s.heap.size + 29) (by omega) (by omega)) (fun q9 h8 h9 => e17 q9 (by omega) (by omega))
  have z11 := z11.kept (e17 (s.heap.size + 56) (by omega) (by omega)) (fun q9 h8 h9 => e17 q9 (by omega) (by omega))
  have z14 := z14.kept (e17 (s.heap.size + 83) (by omega) (by omega)) (fun q9 h8 h9 => e17 q9 (by omega) (by omega))
  have z17 := q17
  rw [show H16.size = s.heap.size + 410 from N16.1] at z17
  refine n_put (T := TX11) C N17 o15 5 kF_X11_41 dX11_init_71 rfl (by decide) rfl rfl rfl rfl rfl (fun H18 L18 N18 o18 e18 => ?_)
  have z2 := z2.kept (e18 s.heap.size (by omega)) (fun q9 h8 h9 => e18 q9 (by omega))
  have z5 := z5.kept (e18 (s.heap.size + 2) (by omega)) (fun q9 h8 h9 => e18 q9 (by omega))
  have z8 := z8.kept (e18 (s.heap.size + 29) (by omega)) (fun q9 h8 h9 => e18 q9 (by omega))
  have z11 := z11.kept (e18 (s.heap.size + 56) (by omega)) (fun q9 h8 h9 => e18 q9 (by omega))
  have z14 := z14.kept (e18 (s.heap.size + 83) (by omega)) (fun q9 h8 h9 => e18 q9 (by omega))
  have z17 := z17.kept (e18 (s.heap.size + 409) (by omega)) (fun q9 h8 h9 => e18 q9 (by omega))
  refine lv_aload_n hx hb dX11_init_74 rfl (lv_at hl 0 rfl) ?_
  refine n_new (ci := 6) (T := TX6) (b := (s.heap.size + 411)) C N18 rfl kn_X11_45 dX11_init_75 rfl ⟨Nat.le_of_ble_eq_true rfl, Nat.le_of_ble_eq_true rfl⟩ (fun H19 N19 o19 e19 => ?_)
  have o18 := o18.kept (e19 a0 (by omega))
  have z2 := z2.kept (e19 s.heap.size (by omega)) (fun q9 h8 h9 => e19 q9 (by omega))
  have z5 := z5.kept (e19 (s.heap.size + 2) (by omega)) (fun q9 h8 h9 => e19 q9 (by omega))
  have z8 := z8.kept (e19 (s.heap.size + 29) (by omega)) (fun q9 h8 h9 => e19 q9 (by omega))
  have z11 := z11.kept (e19 (s.heap.size + 56) (by omega)) (fun q9 h8 h9 => e19 q9 (by omega))
  have z14 := z14.kept (e19 (s.heap.size + 83) (by omega)) (fun q9 h8 h9 => e19 q9 (by omega))
  have z17 := z17.kept (e19 (s.heap.size + 409) (by omega)) (fun q9 h8 h9 => e19 q9 (by omega))
  refine lv_dup hx hb dX11_init_78 rfl ?_
  refine lv_aload_n hx hb dX11_init_79 rfl (lv_at hl 0 rfl) ?_
  refine n_get (T := TX11) (v := .ref s.heap.size) C o18 0 kF_X11_10 dX11_init_80 rfl (by decide) rfl rfl ?_
  refine lv_aload_n hx hb dX11_init_83 rfl (lv_at hl 0 rfl) ?_
  refine n_get (T := TX11) (v := .ref (s.heap.size + 29)) C o18 2 kF_X11_23 dX11_init_84 rfl (by decide) rfl rfl ?_
  refine n_call (As := [.ref s.heap.size, .ref (s.heap.size + 29)]) C N19 (c_X6_init l D (s.heap.size + 411) s.heap.size (s.heap.size + 29)) kJ_X11_47 (Or.inr (by omega)) o19 dX11_init_87 hl.1 rfl cd_X6_init ⟨Nat.le_of_ble_eq_true rfl, Nat.le_of_ble_eq_true rfl, Nat.le_of_ble_eq_true rfl, Nat.le_of_ble_eq_true rfl, Nat.le_of_ble_eq_true rfl⟩ (fun H20 L20 N20 e20 q20 => ?_)
  have o18 := o18.kept (e20 a0 (by omega) (by omega))
  have z2 := z2.kept (e20 s.heap.size (by omega) (by omega)) (fun q9 h8 h9 => e20 q9 (by omega) (by omega))
  have z5 := z5.kept (e20 (s.heap.size + 2) (by omega) (by omega)) (fun q9 h8 h9 => e20 q9 (by omega) (by omega))
  have z8 := z8.kept (e20 (s.heap.size + 29) (by omega) (by omega)) (fun q9 h8 h9 => e20 q9 (by omega) (by omega))
  have z11 := z11.kept (e20 (s.heap.size + 56) (by omega) (by omega)) (fun q9 h8 h9 => e20 q9 (by omega) (by omega))
  have z14 := z14.kept (e20 (s.heap.size + 83) (by omega) (by omega)) (fun q9 h8 h9 => e20 q9 (by omega) (by omega))
  have z17 := z17.kept (e20 (s.heap.size + 409) (by omega) (by omega)) (fun q9 h8 h9 => e20 q9 (by omega) (by omega))
  have z20 := q20
  refine n_put (T := TX11) C N20 o18 6 kF_X11_50 dX11_init_90 rfl (by decide) rfl rfl rfl rfl rfl (fun H21 L21 N21 o21 e21 => ?_)
  have z2 := z2.kept (e21 s.heap.size (by omega)) (fun q9 h8 h9 => e21 q9 (by omega))
  have z5 := z5.kept (e21 (s.heap.size + 2) (by omega)) (fun q9 h8 h9 => e21 q9 (by omega))
  have z8 := z8.kept (e21 (s.heap.size + 29) (by omega)) (fun q9 h8 h9 => e21 q9 (by omega))
  have z11 := z11.kept (e21 (s.heap.size + 56) (by omega)) (fun q9 h8 h9 => e21 q9 (by omega))
  have z14 := z14.kept (e21 (s.heap.size + 83) (by omega)) (fun q9 h8 h9 => e21 q9 (by omega))
  have z17 := z17.kept (e21 (s.heap.size + 409) (by omega)) (fun q9 h8 h9 => e21 q9 (by omega))
  have z20 := z20.kept (e21 (s.heap.size + 411) (by omega)) (fun q9 h8 h9 => e21 q9 (by omega))
  refine lv_aload_n hx hb dX11_init_93 rfl (lv_at hl 0 rfl) ?_
  refine n_new (ci := 4) (T := TX4) (b := (s.heap.size + 412)) C N21 rfl kn_X11_54 dX11_init_94 rfl ⟨Nat.le_of_ble_eq_true rfl, Nat.le_of_ble_eq_true rfl⟩ (fun H22 N22 o22 e22 => ?_)
  have o21 := o21.kept (e22 a0 (by omega))
  have z2 := z2.kept (e22 s.heap.size (by omega)) (fun q9 h8 h9 => e22 q9 (by omega))
  have z5 := z5.kept (e22 (s.heap.size + 2) (by omega)) (fun q9 h8 h9 => e22 q9 (by omega))
  have z8 := z8.kept (e22 (s.heap.size + 29) (by omega)) (fun q9 h8 h9 => e22 q9 (by omega))
  have z11 := z11.kept (e22 (s.heap.size + 56) (by omega)) (fun q9 h8 h9 => e22 q9 (by omega))
  have z14 := z14.kept (e22 (s.heap.size + 83) (by omega)) (fun q9 h8 h9 => e22 q9 (by omega))
  have z17 := z17.kept (e22 (s.heap.size + 409) (by omega)) (fun q9 h8 h9 => e22 q9 (by omega))
  have z20 := z20.kept (e22 (s.heap.size + 411) (by omega)) (fun q9 h8 h9 => e22 q9 (by omega))
  refine lv_dup hx hb dX11_init_97 rfl ?_
  refine lv_aload_n hx hb dX11_init_98 rfl (lv_at hl 0 rfl) ?_
  refine n_get (T := TX11) (v := .ref s.heap.size) C o21 0 kF_X11_10 dX11_init_99 rfl (by decide) rfl rfl ?_
  refine n_call (As := [.ref s.heap.size]) C N22 (c_X4_init l D (s.heap.size + 412) s.heap.size) kJ_X11_56 (Or.inr (by omega)) o22 dX11_init_102 hl.1 rfl cd_X4_init ⟨Nat.le_of_ble_eq_true rfl, Nat.le_of_ble_eq_true rfl, Nat.le_of_ble_eq_true rfl, Nat.le_of_ble_eq_true rfl, Nat.le_of_ble_eq_true rfl⟩ (fun H23 L23 N23 e23 q23 => ?_)
  have o21 := o21.kept (e23 a0 (by omega) (by omega))
  have z2 := z2.kept (e23 s.heap.size (by omega) (by omega)) (fun q9 h8 h9 => e23 q9 (by omega) (by omega))
  have z5 := z5.kept (e23 (s.heap.size + 2) (by omega) (by omega)) (fun q9 h8 h9 => e23 q9 (by omega) (by omega))
  have z8 := z8.kept (e23 (s.heap.size + 29) (by omega) (by omega)) (fun q9 h8 h9 => e23 q9 (by omega) (by omega))
  have z11 := z11.kept (e23 (s.heap.size + 56) (by omega) (by omega)) (fun q9 h8 h9 => e23 q9 (by omega) (by omega))
  have z14 := z14.kept (e23 (s.heap.size + 83) (by omega) (by omega)) (fun q9 h8 h9 => e23 q9 (by omega) (by omega))
  have z17 := z17.kept (e23 (s.heap.size + 409) (by omega) (by omega)) (fun q9 h8 h9 => e23 q9 (by omega) (by omega))
  have z20 := z20.kept (e23 (s.heap.size + 411) (by omega) (by omega)) (fun q9 h8 h9 => e23 q9 (by omega) (by omega))
  have z23 := q23
  rw [show H22.size = s.heap.size + 413 from N22.1] at z23
  refine n_put (T := TX11) C N23 o21 7 kF_X11_59 dX11_init_105 rfl (by decide) rfl rfl rfl rfl rfl (fun H24 L24 N24 o24 e24 => ?_)
  have z2 := z2.kept (e24 s.heap.size (by omega)) (fun q9 h8 h9 => e24 q9 (by omega))
  have z5 := z5.kept (e24 (s.heap.size + 2) (by omega)) (fun q9 h8 h9 => e24 q9 (by omega))
  have z8 := z8.kept (e24 (s.heap.size + 29) (by omega)) (fun q9 h8 h9 => e24 q9 (by omega))
  have z11 := z11.kept (e24 (s.heap.size + 56) (by omega)) (fun q9 h8 h9 => e24 q9 (by omega))
  have z14 := z14.kept (e24 (s.heap.size + 83) (by omega)) (fun q9 h8 h9 => e24 q9 (by omega))
  have z17 := z17.kept (e24 (s.heap.size + 409) (by omega)) (fun q9 h8 h9 => e24 q9 (by omega))
  have z20 := z20.kept (e24 (s.heap.size + 411) (by omega)) (fun q9 h8 h9 => e24 q9 (by omega))
  have z23 := z23.kept (e24 (s.heap.size + 412) (by omega)) (fun q9 h8 h9 => e24 q9 (by omega))
  refine lv_aload_n hx hb dX11_init_108 rfl (lv_at hl 0 rfl) ?_
  refine lv_iconst (v := 0) hx hb dX11_init_109 (by decide) ?_
  refine n_put (T := TX11) C N24 o24 8 kF_X11_63 dX11_init_110 rfl (by decide) rfl rfl rfl rfl rfl (fun H25 L25 N25 o25 e25 => ?_)
  have z2 := z2.kept (e25 s.heap.size (by omega)) (fun q9 h8 h9 => e25 q9 (by omega))
  have z5 := z5.kept (e25 (s.heap.size + 2) (by omega)) (fun q9 h8 h9 => e25 q9 (by omega))
  have z8 := z8.kept (e25 (s.heap.size + 29) (by omega)) (fun q9 h8 h9 => e25 q9 (by omega))
  have z11 := z11.kept (e25 (s.heap.size + 56) (by omega)) (fun q9 h8 h9 => e25 q9 (by omega))
  have z14 := z14.kept (e25 (s.heap.size + 83) (by omega)) (fun q9 h8 h9 => e25 q9 (by omega))
  have z17 := z17.kept (e25 (s.heap.size + 409) (by omega)) (fun q9 h8 h9 => e25 q9 (by omega))
  have z20 := z20.kept (e25 (s.heap.size + 411) (by omega)) (fun q9 h8 h9 => e25 q9 (by omega))
  have z23 := z23.kept (e25 (s.heap.size + 412) (by omega)) (fun q9 h8 h9 => e25 q9 (by omega))
  refine lv_aload_n hx hb dX11_init_113 rfl (lv_at hl 0 rfl) ?_
  refine lv_iconst (v := -1) hx hb dX11_init_114 (by decide) ?_
  refine n_put (T := TX11) C N25 o25 9 kF_X11_67 dX11_init_115 rfl (by decide) rfl rfl rfl rfl rfl (fun H26 L26 N26 o26 e26 => ?_)
  have z2 := z2.kept (e26 s.heap.size (by omega)) (fun q9 h8 h9 => e26 q9 (by omega))
  have z5 := z5.kept (e26 (s.heap.size + 2) (by omega)) (fun q9 h8 h9 => e26 q9 (by omega))
  have z8 := z8.kept (e26 (s.heap.size + 29) (by omega)) (fun q9 h8 h9 => e26 q9 (by omega))
  have z11 := z11.kept (e26 (s.heap.size + 56) (by omega)) (fun q9 h8 h9 => e26 q9 (by omega))
  have z14 := z14.kept (e26 (s.heap.size + 83) (by omega)) (fun q9 h8 h9 => e26 q9 (by omega))
  have z17 := z17.kept (e26 (s.heap.size + 409) (by omega)) (fun q9 h8 h9 => e26 q9 (by omega))
  have z20 := z20.kept (e26 (s.heap.size + 411) (by omega)) (fun q9 h8 h9 => e26 q9 (by omega))
  have z23 := z23.kept (e26 (s.heap.size + 412) (by omega)) (fun q9 h8 h9 => e26 q9 (by omega))
  exact n_ret hQ C N26 hr dX11_init_118 (by decide) (by decide) (⟨o26.to (fun k hk => match k, hk with | 0, _ => rfl | 1, _ => rfl | 2, _ => rfl | 3, _ => rfl | 4, _ => rfl | 5, _ => rfl | 6, _ => rfl | 7, _ => rfl | 8, _ => rfl | 9, _ => rfl | k + 10, hk => absurd hk (by omega)), z2, z5, z8, z11, z14, z17, z20, z23⟩)
