
def PaSh (D : DD) (H : Heap) (a n : Nat) : Prop := t_OB a (D.1.1 7) 3 (D.1.2 7) H (fun k => match k with | 0 => .ref n | _ => .int 0) ∧ H[n]? = some (arrV (D.2 5) 12 (fun j => .ref (n + 1 + 27 * j))) ∧ ∀ j : Nat, j < 12 → PSh D H (n + 1 + 27 * j) (n + 2 + 27 * j)
theorem PaSh.kept {D : DD} {H H1 : Heap} {a n : Nat} (h : PaSh D H a n) (h1 : H1[a]? = H[a]?) (h2 : ∀ q : Nat, n ≤ q → q < n + 325 → H1[q]? = H[q]?) : PaSh D H1 a n := ⟨h.1.kept h1, by rw [h2 n (by omega) (by omega)]; exact h.2.1, fun j hj => (h.2.2 j hj).kept (h2 _ (by omega) (by omega)) (fun q h3 h4 => h2 q (by omega) (by omega))⟩
theorem ko_X7_1 : ∀ w ∈ ([.methodLink RX7 1 Lib.objectInit, .instanceMethod Lib.objectInit, .code Lib.objectInit ⟨#[0xb1]⟩ 1 none] : List Cond), w ∈ lw_good := mem_dec (by decide +kernel)
theorem kq_X7_9 : Cond.classLink RX7 9 RX5 ∈ lw_good := mem_dec (L := [.classLink RX7 9 RX5]) (by decide +kernel) _ (List.mem_singleton.mpr rfl)
theorem kn_X7_9 : ∀ w ∈ ([.classLink RX7 9 RX5, .instantiable RX5 14, .initialized RX5] : List Cond), w ∈ lw_good := mem_dec (by decide +kernel)
theorem kJ_X7_22 : ∀ w ∈ ([.methodLink RX7 22 yX5_init, .instanceMethod yX5_init, .initialized RX5, .code yX5_init cX5_init 2 none] : List Cond), w ∈ lw_good := mem_dec (by decide +kernel)
set_option maxRecDepth 100000 in
set_option maxHeartbeats 4000000 in
theorem c_X7_init (l : Launch) (D : DD) (a0 : Nat)   : CS l Ao D yX7_init cX7_init 2 2 325 4584 [.ref a0] a0 (fun H => t_OB a0 (D.1.1 7) 3 (D.1.2 7) H (fun k => dflt (TX7 k).2.2.1)) (fun H0 H1 => PaSh D H1 a0 H0.size) := by
  refine enterS (by decide) (Nat.le_of_ble_eq_true rfl) rfl ?_
  intro p e s m args below meth c ls Q hA hQ C hr hpre hl
  have hx := C.1
  have hb := C.2.1
  have hl : lv_has ls 2 [(0, .ref a0)] := hl
  have N0 : Nf s.heap s.heap [] a0 0 := ⟨rfl, fun _ _ _ => rfl, fun _ h => nomatch h⟩
  have ob := hpre
  have a0lt : a0 < s.heap.size := by obtain ⟨c9, h9, -⟩ := ob; exact (Array.getElem?_eq_some_iff.mp h9).1
  refine lv_aload_n hx hb dX7_init_0 rfl (lv_at hl 0 rfl) ?_
  refine n_obj C ko_X7_1 hl.1 dX7_init_1 ⟨Nat.le_of_ble_eq_true rfl, Nat.le_of_ble_eq_true rfl⟩ ?_
  refine lv_aload_n hx hb dX7_init_4 rfl (lv_at hl 0 rfl) ?_
  refine lv_bipush (v := 12) hx hb dX7_init_5 (by decide) ?_
  refine n_aq (N := 12) (t := 5) (b := s.heap.size) C N0 rfl kq_X7_9 C.2.2.2.2.2.2.2.2.2.2.1 rfl (by decide) (by decide) (by decide) ⟨Nat.le_of_ble_eq_true rfl, Nat.le_of_ble_eq_true rfl⟩ dX7_init_7 (fun H1 N1 o1 e1 => ?_)
  have ob := ob.kept (e1 a0 (by omega))
  refine n_put (T := TX7) C N1 ob 0 kF_X7_11 dX7_init_10 rfl (by decide) rfl rfl rfl rfl rfl (fun H2 L2 N2 o2 e2 => ?_)
  have o1 := (e2 s.heap.size (by omega)).trans o1
  refine lv_aload_n hx hb dX7_init_13 rfl (lv_at hl 0 rfl) ?_
  refine lv_iconst (v := 0) hx hb dX7_init_14 (by decide) ?_
  refine n_put (T := TX7) C N2 o2 1 kF_X7_15 dX7_init_15 rfl (by decide) rfl rfl rfl rfl rfl (fun H3 L3 N3 o3 e3 => ?_)
  have o1 := (e3 s.heap.size (by omega)).trans o1
  refine lv_aload_n hx hb dX7_init_18 rfl (lv_at hl 0 rfl) ?_
  refine lv_iconst (v := 0) hx hb dX7_init_19 (by decide) ?_
  refine n_put (T := TX7) C N3 o3 2 kF_X7_19 dX7_init_20 rfl (by decide) rfl rfl rfl rfl rfl (fun H4 L4 N4 o4 e4 => ?_)
  have o1 := (e4 s.heap.size (by omega)).trans o1
  refine lv_iconst (v := 0) hx hb dX7_init_23 (by decide) ?_
  refine lv_istore_n (lv' := [(1, .int (0 : Int32)), (0, .ref a0)]) hx hb dX7_init_24 rfl hl (by decide) rfl (fun ls hl => ?_)
  refine lv_iload_n hx hb dX7_init_25 rfl (lv_at hl 0 rfl) ?_
  refine lv_bipush (v := 12) hx hb dX7_init_26 (by decide) ?_
  refine lv_icmp_ge (tgt := 50) hx hb dX7_init_28 (by decide) (fun c9 => ?_) (fun c9 => ?_)
  · exact absurd c9 (by decide)
  refine lv_aload_n hx hb dX7_init_31 rfl (lv_at hl 1 rfl) ?_
  refine n_get (T := TX7) (v := .ref s.heap.size) C o4 0 kF_X7_11 dX7_init_32 rfl (by decide) rfl rfl ?_
  refine lv_iload_n hx hb dX7_init_35 rfl (lv_at hl 0 rfl) ?_
  refine n_new (ci := 5) (T := TX5) (b := (s.heap.size + 1)) C N4 rfl kn_X7_9 dX7_init_36 rfl ⟨Nat.le_of_ble_eq_true rfl, Nat.le_of_ble_eq_true rfl⟩ (fun H5 N5 o5 e5 => ?_)
  have o4 := o4.kept (e5 a0 (by omega))
  have o1 := (e5 s.heap.size (by omega)).trans o1
  refine lv_dup hx hb dX7_init_39 rfl ?_
  refine n_call (As := []) C N5 (c_X5_init l D (s.heap.size + 1)) kJ_X7_22 (Or.inr (by omega)) o5 dX7_init_40 hl.1 rfl cd_X5_init ⟨Nat.le_of_ble_eq_true rfl, Nat.le_of_ble_eq_true rfl, Nat.le_of_ble_eq_true rfl, Nat.le_of_ble_eq_true rfl, Nat.le_of_ble_eq_true rfl⟩ (fun H6 L6 N6 e6 q6 => ?_)
  have o4 := o4.kept (e6 a0 (by omega) (by omega))
  have o1 := (e6 s.heap.size (by omega) (by omega)).trans o1
  have z6 := q6
  rw [show H5.size = s.heap.size + 2 from N5.1] at z6
  refine n_as (t := 5) (T := TX5) C N6 o1 z6.1 (by omega) rfl rfl (by decide) (by decide) dX7_init_43 (fun H7 L7 N7 o7 e7 => ?_)
  have o4 := o4.kept (e7 a0 (by omega))
  have z6 := z6.kept (e7 (s.heap.size + 1) (by omega)) (fun q9 h8 h9 => e7 q9 (by omega))
  refine lv_iinc (v := (1 : Int32)) (lv' := [(1, .int (1 : Int32)), (0, .ref a0)]) hx hb dX7_init_44 hl (k := 0) rfl (by decide) (by decide) rfl (fun ls hl => ?_)
  refine lv_goto (tgt := 25) hx hb dX7_init_47 (by decide) ?_
  refine lv_iload_n hx hb dX7_init_25 rfl (lv_at hl 0 rfl) ?_
  refine lv_bipush (v := 12) hx hb dX7_init_26 (by decide) ?_
  refine lv_icmp_ge (tgt := 50) hx hb dX7_init_28 (by decide) (fun c9 => ?_) (fun c9 => ?_)
  · exact absurd c9 (by decide)
  refine lv_aload_n hx hb dX7_init_31 rfl (lv_at hl 1 rfl) ?_
  refine n_get (T := TX7) (v := .ref s.heap.size) C o4 0 kF_X7_11 dX7_init_32 rfl (by decide) rfl rfl ?_
  refine lv_iload_n hx hb dX7_init_35 rfl (lv_at hl 0 rfl) ?_
  refine n_new (ci := 5) (T := TX5) (b := (s.heap.size + 28)) C N7 rfl kn_X7_9 dX7_init_36 rfl ⟨Nat.le_of_ble_eq_true rfl, Nat.le_of_ble_eq_true rfl⟩ (fun H8 N8 o8 e8 => ?_)
  have o4 := o4.kept (e8 a0 (by omega))
  have o7 := (e8 s.heap.size (by omega)).trans o7
  have z6 := z6.kept (e8 (s.heap.size + 1) (by omega)) (fun q9 h8 h9 => e8 q9 (by omega))
  refine lv_dup hx hb dX7_init_39 rfl ?_
  refine n_call (As := []) C N8 (c_X5_init l D (s.heap.size + 28)) kJ_X7_22 (Or.inr (by omega)) o8 dX7_init_40 hl.1 rfl cd_X5_init ⟨Nat.le_of_ble_eq_true rfl, Nat.le_of_ble_eq_true rfl, Nat.le_of_ble_eq_true rfl, Nat.le_of_ble_eq_true rfl, Nat.le_of_ble_eq_true rfl⟩ (fun H9 L9 N9 e9 q9 => ?_)
  have o4 := o4.kept (e9 a0 (by omega) (by omega))
  have o7 := (e9 s.heap.size (by omega) (by omega)).trans o7
  have z6 := z6.kept (e9 (s.heap.size + 1) (by omega) (by omega)) (fun q9 h8 h9 => e9 q9 (by omega) (by omega))
  have z9 := q9
  rw [show H8.size = s.heap.size + 29 from N8.1] at z9
  refine n_as (t := 5) (T := TX5) C N9 o7 z9.1 (by omega) rfl rfl (by decide) (by decide) dX7_init_43 (fun H10 L10 N10 o10 e10 => ?_)
  have o4 := o4.kept (e10 a0 (by omega))
  have z6 := z6.kept (e10 (s.heap.size + 1) (by omega)) (fun q9 h8 h9 => e10 q9 (by omega))
  have z9 := z9.kept (e10 (s.heap.size + 28) (by omega)) (fun q9 h8 h9 => e10 q9 (by omega))
  refine lv_iinc (v := (2 : Int32)) (lv' := [(1, .int (2 : Int32)), (0, .ref a0)]) hx hb dX7_init_44 hl (k := 0) rfl (by decide) (by decide) rfl (fun ls hl => ?_)
  refine lv_goto (tgt := 25) hx hb dX7_init_47 (by decide) ?_
  refine lv_iload_n hx hb dX7_init_25 rfl (lv_at hl 0 rfl) ?_
  refine lv_bipush (v := 12) hx hb dX7_init_26 (by decide) ?_
  refine lv_icmp_ge (tgt := 50) hx hb dX7_init_28 (by decide) (fun c9 => ?_) (fun c9 => ?_)
  · exact absurd c9 (by decide)
  refine lv_aload_n hx hb dX7_init_31 rfl (lv_at hl 1 rfl) ?_
  refine n_get (T := TX7) (v := .ref s.heap.size) C o4 0 kF_X7_11 dX7_init_32 rfl (by decide) rfl rfl ?_
  refine lv_iload_n hx hb dX7_init_35 rfl (lv_at hl 0 rfl) ?_
  refine n_new (ci := 5) (T := TX5) (b := (s.heap.size + 55)) C N10 rfl kn_X7_9 dX7_init_36 rfl ⟨Nat.le_of_ble_eq_true rfl, Nat.le_of_ble_eq_true rfl⟩ (fun H11 N11 o11 e11 => ?_)
  have o4 := o4.kept (e11 a0 (by omega))
  have o10 := (e11 s.heap.size (by omega)).trans o10
  have z6 := z6.kept (e11 (s.heap.size + 1) (by omega)) (fun q9 h8 h9 => e11 q9 (by omega))
  have z9 := z9.kept (e11 (s.heap.size + 28) (by omega)) (fun q9 h8 h9 => e11 q9 (by omega))
  refine lv_dup hx hb dX7_init_39 rfl ?_
  refine n_call (As := []) C N11 (c_X5_init l D (s.heap.size + 55)) kJ_X7_22 (Or.inr (by omega)) o11 dX7_init_40 hl.1 rfl cd_X5_init ⟨Nat.le_of_ble_eq_true rfl, Nat.le_of_ble_eq_true rfl, Nat.le_of_ble_eq_true rfl, Nat.le_of_ble_eq_true rfl, Nat.le_of_ble_eq_true rfl⟩ (fun H12 L12 N12 e12 q12 => ?_)
  have o4 := o4.kept (e12 a0 (by omega) (by omega))
  have o10 := (e12 s.heap.size (by omega) (by omega)).trans o10
  have z6 := z6.kept (e12 (s.heap.size + 1) (by omega) (by omega)) (fun q9 h8 h9 => e12 q9 (by omega) (by omega))
  have z9 := z9.kept (e12 (s.heap.size + 28) (by omega) (by omega)) (fun q9 h8 h9 => e12 q9 (by omega) (by omega))
  have z12 := q12
  rw [show H11.size = s.heap.size + 56 from N11.1] at z12
  refine n_as (t := 5) (T := TX5) C N12 o10 z12.1 (by omega) rfl rfl (by decide) (by decide) dX7_init_43 (fun H13 L13 N13 o13 e13 => ?_)
  have o4 := o4.kept (e13 a0 (by omega))
  have z6 := z6.kept (e13 (s.heap.size + 1) (by omega)) (fun q9 h8 h9 => e13 q9 (by omega))
  have z9 := z9.kept (e13 (s.heap.size + 28) (by omega)) (fun q9 h8 h9 => e13 q9 (by omega))
  have z12 := z12.kept (e13 (s.heap.size + 55) (by omega)) (fun q9 h8 h9 => e13 q9 (by omega))
  refine lv_iinc (v := (3 : Int32)) (lv' := [(1, .int (3 : Int32)), (0, .ref a0)]) hx hb dX7_init_44 hl (k := 0) rfl (by decide) (by decide) rfl (fun ls hl => ?_)
  refine lv_goto (tgt := 25) hx hb dX7_init_47 (by decide) ?_
  refine lv_iload_n hx hb dX7_init_25 rfl (lv_at hl 0 rfl) ?_
  refine lv_bipush (v := 12) hx hb dX7_init_26 (by decide) ?_
  refine lv_icmp_ge (tgt := 50) hx hb dX7_init_28 (by decide) (fun c9 => ?_) (fun c9 => ?_)
  · exact absurd c9 (by decide)
  refine lv_aload_n hx hb dX7_init_31 rfl (lv_at hl 1 rfl) ?_
  refine n_get (T := TX7) (v := .ref s.heap.size) C o4 0 kF_X7_11 dX7_init_32 rfl (by decide) rfl rfl ?_
  refine lv_iload_n hx hb dX7_init_35 rfl (lv_at hl 0 rfl) ?_
  refine n_new (ci := 5) (T := TX5) (b := (s.heap.size + 82)) C N13 rfl kn_X7_9 dX7_init_36 rfl ⟨Nat.le_of_ble_eq_true rfl, Nat.le_of_ble_eq_true rfl⟩ (fun H14 N14 o14 e14 => ?_)
  have o4 := o4.kept (e14 a0 (by omega))
  have o13 := (e14 s.heap.size (by omega)).trans o13
  have z6 := z6.kept (e14 (s.heap.size + 1) (by omega)) (fun q9 h8 h9 => e14 q9 (by omega))
  have z9 := z9.kept (e14 (s.heap.size + 28) (by omega)) (fun q9 h8 h9 => e14 q9 (by omega))
  have z12 := z12.kept (e14 (s.heap.size + 55) (by omega)) (fun q9 h8 h9 => e14 q9 (by omega))
  refine lv_dup hx hb dX7_init_39 rfl ?_
  refine n_call (As := []) C N14 (c_X5_init l D (s.heap.size + 82)) kJ_X7_22 (Or.inr (by omega)) o14 dX7_init_40 hl.1 rfl cd_X5_init ⟨Nat.le_of_ble_eq_true rfl, Nat.le_of_ble_eq_true rfl, Nat.le_of_ble_eq_true rfl, Nat.le_of_ble_eq_true rfl, Nat.le_of_ble_eq_true rfl⟩ (fun H15 L15 N15 e15 q15 => ?_)
  have o4 := o4.kept (e15 a0 (by omega) (by omega))
  have o13 := (e15 s.heap.size (by omega) (by omega)).trans o13
  have z6 := z6.kept (e15 (s.heap.size + 1) (by omega) (by omega)) (fun q9 h8 h9 => e15 q9 (by omega) (by omega))
  have z9 := z9.kept (e15 (s.heap.size + 28) (by omega) (by omega)) (fun q9 h8 h9 => e15 q9 (by omega) (by omega))
  have z12 := z12.kept (e15 (s.heap.size + 55) (by omega) (by omega)) (fun q9 h8 h9 => e15 q9 (by omega) (by omega))
  have z15 := q15
  rw [show H14.size = s.heap.size + 83 from N14.1] at z15
  refine n_as (t := 5) (T := TX5) C N15 o13 z15.1 (by omega) rfl rfl (by decide) (by decide) dX7_init_43 (fun H16 L16 N16 o16 e16 => ?_)
  have o4 := o4.kept (e16 a0 (by omega))
  have z6 := z6.kept (e16 (s.heap.size + 1) (by omega)) (fun q9 h8 h9 => e16 q9 (by omega))
  have z9 := z9.kept (e16 (s.heap.size + 28) (by omega)) (fun q9 h8 h9 => e16 q9 (by omega))
  have z12 := z12.kept (e16 (s.heap.size + 55) (by omega)) (fun q9 h8 h9 => e16 q9 (by omega))
  have z15 := z15.kept (e16 (s.heap.size + 82) (by omega)) (fun q9 h8 h9 => e16 q9 (by omega))
  refine lv_iinc (v := (4 : Int32)) (lv' := [(1, .int (4 : Int32)), (0, .ref a0)]) hx hb dX7_init_44 hl (k := 0) rfl (by decide) (by decide) rfl (fun ls hl => ?_)
  refine lv_goto (tgt := 25) hx hb dX7_init_47 (by decide) ?_
  refine lv_iload_n hx hb dX7_init_25 rfl (lv_at hl 0 rfl) ?_
  refine lv_bipush (v := 12) hx hb dX7_init_26 (by decide) ?_
  refine lv_icmp_ge (tgt := 50) hx hb dX7_init_28 (by decide) (fun c9 => ?_) (fun c9 => ?_)
  · exact absurd c9 (by decide)
  refine lv_aload_n hx hb dX7_init_31 rfl (lv_at hl 1 rfl) ?_
  refine n_get (T := TX7) (v := .ref s.heap.size) C o4 0 kF_X7_11 dX7_init_32 rfl (by decide) rfl rfl ?_
  refine lv_iload_n hx hb dX7_init_35 rfl (lv_at hl 0 rfl) ?_
  refine n_new (ci := 5) (T := TX5) (b := (s.heap.size + 109)) C N16 rfl kn_X7_9 dX7_init_36 rfl ⟨Nat.le_of_ble_eq_true rfl, Nat.le_of_ble_eq_true rfl⟩ (fun H17 N17 o17 e17 => ?_)
  have o4 := o4.kept (e17 a0 (by omega))
  have o16 := (e17 s.heap.size (by omega)).trans o16
  have z6 := z6.kept (e17 (s.heap.size + 1) (by omega)) (fun q9 h8 h9 => e17 q9 (by omega))
  have z9 := z9.kept (e17 (s.heap.size + 28) (by omega)) (fun q9 h8 h9 => e17 q9 (by omega))
  have z12 := z12.kept (e17 (s.heap.size + 55) (by omega)) (fun q9 h8 h9 => e17 q9 (by omega))
  have z15 := z15.kept (e17 (s.heap.size + 82) (by omega)) (fun q9 h8 h9 => e17 q9 (by omega))
  refine lv_dup hx hb dX7_init_39 rfl ?_
  refine n_call (As := []) C N17 (c_X5_init l D (s.heap.size + 109)) kJ_X7_22 (Or.inr (by omega)) o17 dX7_init_40 hl.1 rfl cd_X5_init ⟨Nat.le_of_ble_eq_true rfl, Nat.le_of_ble_eq_true rfl, Nat.le_of_ble_eq_true rfl, Nat.le_of_ble_eq_true rfl, Nat.le_of_ble_eq_true rfl⟩ (fun H18 L18 N18 e18 q18 => ?_)
  have o4 := o4.kept (e18 a0 (by omega) (by omega))
  have o16 := (e18 s.heap.size (by omega) (by omega)).trans o16
  have z6 := z6.kept (e18 (s.heap.size + 1) (by omega) (by omega)) (fun q9 h8 h9 => e18 q9 (by omega) (by omega))
  have z9 := z9.kept (e18 (s.heap.size + 28) (by omega) (by omega)) (fun q9 h8 h9 => e18 q9 (by omega) (by omega))
  have z12 := z12.kept (e18 (s.heap.size + 55) (by omega) (by omega)) (fun q9 h8 h9 => e18 q9 (by omega) (by omega))
  have z15 := z15.kept (e18 (s.heap.size + 82) (by omega) (by omega)) (fun q9 h8 h9 => e18 q9 (by omega) (by omega))
  have z18 := q18
  rw [show H17.size = s.heap.size + 110 from N17.1] at z18
  refine n_as (t := 5) (T := TX5) C N18 o16 z18.1 (by omega) rfl rfl (by decide) (by decide) dX7_init_43 (fun H19 L19 N19 o19 e19 => ?_)
  have o4 := o4.kept (e19 a0 (by omega))
  have z6 := z6.kept (e19 (s.heap.size + 1) (by omega)) (fun q9 h8 h9 => e19 q9 (by omega))
  have z9 := z9.kept (e19 (s.heap.size + 28) (by omega)) (fun q9 h8 h9 => e19 q9 (by omega))
  have z12 := z12.kept (e19 (s.heap.size + 55) (by omega)) (fun q9 h8 h9 => e19 q9 (by omega))
  have z15 := z15.kept (e19 (s.heap.size + 82) (by omega)) (fun q9 h8 h9 => e19 q9 (by omega))
  have z18 := z18.kept (e19 (s.heap.size + 109) (by omega)) (fun q9 h8 h9 => e19 q9 (by omega))
  refine lv_iinc (v := (5 : Int32)) (lv' := [(1, .int (5 : Int32)), (0, .ref a0)]) hx hb dX7_init_44 hl (k := 0) rfl (by decide) (by decide) rfl (fun ls hl => ?_)
  refine lv_goto (tgt := 25) hx hb dX7_init_47 (by decide) ?_
  refine lv_iload_n hx hb dX7_init_25 rfl (lv_at hl 0 rfl) ?_
  refine lv_bipush (v := 12) hx hb dX7_init_26 (by decide) ?_
  refine lv_icmp_ge (tgt := 50) hx hb dX7_init_28 (by decide) (fun c9 => ?_) (fun c9 => ?_)
  · exact absurd c9 (by decide)
  refine lv_aload_n hx hb dX7_init_31 rfl (lv_at hl 1 rfl) ?_
  refine n_get (T := TX7) (v := .ref s.heap.size) C o4 0 kF_X7_11 dX7_init_32 rfl (by decide) rfl rfl ?_
  refine lv_iload_n hx hb dX7_init_35 rfl (lv_at hl 0 rfl) ?_
  refine n_new (ci := 5) (T := TX5) (b := (s.heap.size + 136)) C N19 rfl kn_X7_9 dX7_init_36 rfl ⟨Nat.le_of_ble_eq_true rfl, Nat.le_of_ble_eq_true rfl⟩ (fun H20 N20 o20 e20 => ?_)
  have o4 := o4.kept (e20 a0 (by omega))
  have o19 := (e20 s.heap.size (by omega)).trans o19
  have z6 := z6.kept (e20 (s.heap.size + 1) (by omega)) (fun q9 h8 h9 => e20 q9 (by omega))
  have z9 := z9.kept (e20 (s.heap.size + 28) (by omega)) (fun q9 h8 h9 => e20 q9 (by omega))
  have z12 := z12.kept (e20 (s.heap.size + 55) (by omega)) (fun q9 h8 h9 => e20 q9 (by omega))
  have z15 := z15.kept (e20 (s.heap.size + 82) (by omega)) (fun q9 h8 h9 => e20 q9 (by omega))
  have z18 := z18.kept (e20 (s.heap.size + 109) (by omega)) (fun q9 h8 h9 => e20 q9 (by omega))
  refine lv_dup hx hb dX7_init_39 rfl ?_
  refine n_call (As := []) C N20 (c_X5_init l D (s.heap.size + 136)) kJ_X7_22 (Or.inr (by omega)) o20 dX7_init_40 hl.1 rfl cd_X5_init ⟨Nat.le_of_ble_eq_true rfl, Nat.le_of_ble_eq_true rfl, Nat.le_of_ble_eq_true rfl, Nat.le_of_ble_eq_true rfl, Nat.le_of_ble_eq_true rfl⟩ (fun H21 L21 N21 e21 q21 => ?_)
  have o4 := o4.kept (e21 a0 (by omega) (by omega))
  have o19 := (e21 s.heap.size (by omega) (by omega)).trans o19
  have z6 := z6.kept (e21 (s.heap.size + 1) (by omega) (by omega)) (fun q9 h8 h9 => e21 q9 (by omega) (by omega))
  have z9 := z9.kept (e21 (s.heap.size + 28) (by omega) (by omega)) (fun q9 h8 h9 => e21 q9 (by omega) (by omega))
  have z12 := z12.kept (e21 (s.heap.size + 55) (by omega) (by omega)) (fun q9 h8 h9 => e21 q9 (by omega) (by omega))
  have z15 := z15.kept (e21 (s.heap.size + 82) (by omega) (by omega)) (fun q9 h8 h9 => e21 q9 (by omega) (by omega))
  have z18 := z18.kept (e21 (s.heap.size + 109) (by omega) (by omega)) (fun q9 h8 h9 => e21 q9 (by omega) (by omega))
  have z21 := q21
  rw [show H20.size = s.heap.size + 137 from N20.1] at z21
  refine n_as (t := 5) (T := TX5) C N21 o19 z21.1 (by omega) rfl rfl (by decide) (by decide) dX7_init_43 (fun H22 L22 N22 o22 e22 => ?_)
  have o4 := o4.kept (e22 a0 (by omega))
  have z6 := z6.kept (e22 (s.heap.size + 1) (by omega)) (fun q9 h8 h9 => e22 q9 (by omega))
  have z9 := z9.kept (e22 (s.heap.size + 28) (by omega)) (fun q9 h8 h9 => e22 q9 (by omega))
  have z12 := z12.kept (e22 (s.heap.size + 55) (by omega)) (fun q9 h8 h9 => e22 q9 (by omega))
  have z15 := z15.kept (e22 (s.heap.size + 82) (by omega)) (fun q9 h8 h9 => e22 q9 (by omega))
  have z18 := z18.kept (e22 (s.heap.size + 109) (by omega)) (fun q9 h8 h9 => e22 q9 (by omega))
  have z21 := z21.kept (e22 (s.heap.size + 136) (by omega)) (fun q9 h8 h9 => e22 q9 (by omega))
  refine lv_iinc (v := (6 : Int32)) (lv' := [(1, .int (6 : Int32)), (0, .ref a0)]) hx hb dX7_init_44 hl (k := 0) rfl (by decide) (by decide) rfl (fun ls hl => ?_)
  refine lv_goto (tgt := 25) hx hb dX7_init_47 (by decide) ?_
  refine lv_iload_n hx hb dX7_init_25 rfl (lv_at hl 0 rfl) ?_
  refine lv_bipush (v := 12) hx hb dX7_init_26 (by decide) ?_
  refine lv_icmp_ge (tgt := 50) hx hb dX7_init_28 (by decide) (fun c9 => ?_) (fun c9 => ?_)
  · exact absurd c9 (by decide)
  refine lv_aload_n hx hb dX7_init_31 rfl (lv_at hl 1 rfl) ?_
  refine n_get (T := TX7) (v := .ref s.heap.size) C o4 0 kF_X7_11 dX7_init_32 rfl (by decide) rfl rfl ?_
  refine lv_iload_n hx hb dX7_init_35 rfl (lv_at hl 0 rfl) ?_
  refine n_new (ci := 5) (T := TX5) (b := (s.heap.size + 163)) C N22 rfl kn_X7_9 dX7_init_36 rfl ⟨Nat.le_of_ble_eq_true rfl, Nat.le_of_ble_eq_true rfl⟩ (fun H23 N23 o23 e23 => ?_)
  have o4 := o4.kept (e23 a0 (by omega))
  have o22 := (e23 s.heap.size (by omega)).trans o22
  have z6 := z6.kept (e23 (s.heap.size + 1) (by omega)) (fun q9 h8 h9 => e23 q9 (by omega))
  have z9 := z9.kept (e23 (s.heap.size + 28) (by omega)) (fun q9 h8 h9 => e23 q9 (by omega))
  have z12 := z12.kept (e23 (s.heap.size + 55) (by omega)) (fun q9 h8 h9 => e23 q9 (by omega))
  have z15 := z15.kept (e23 (s.heap.size + 82) (by omega)) (fun q9 h8 h9 => e23 q9 (by omega))
  have z18 := z18.kept (e23 (s.heap.size + 109) (by omega)) (fun q9 h8 h9 => e23 q9 (by omega))
  have z21 := z21.kept (e23 (s.heap.size + 136) (by omega)) (fun q9 h8 h9 => e23 q9 (by omega))
  refine lv_dup hx hb dX7_init_39 rfl ?_
  refine n_call (As := []) C N23 (c_X5_init l D (s.heap.size + 163)) kJ_X7_22 (Or.inr (by omega)) o23 dX7_init_40 hl.1 rfl cd_X5_init ⟨Nat.le_of_ble_eq_true rfl, Nat.le_of_ble_eq_true rfl, Nat.le_of_ble_eq_true rfl, Nat.le_of_ble_eq_true rfl, Nat.le_of_ble_eq_true rfl⟩ (fun H24 L24 N24 e24 q24 => ?_)
  have o4 := o4.kept (e24 a0 (by omega) (by omega))
  have o22 := (e24 s.heap.size (by omega) (by omega)).trans o22
  have z6 := z6.kept (e24 (s.heap.size + 1) (by omega) (by omega)) (fun q9 h8 h9 => e24 q9 (by omega) (by omega))
  have z9 := z9.kept (e24 (s.heap.size + 28) (by omega) (by omega)) (fun q9 h8 h9 => e24 q9 (by omega) (by omega))
  have z12 := z12.kept (e24 (s.heap.size + 55) (by omega) (by omega)) (fun q9 h8 h9 => e24 q9 (by omega) (by omega))
  have z15 := z15.kept (e24 (s.heap.size + 82) (by omega) (by omega)) (fun q9 h8 h9 => e24 q9 (by omega) (by omega))
  have z18 := z18.kept (e24 (s.heap.size + 109) (by omega) (by omega)) (fun q9 h8 h9 => e24 q9 (by omega) (by omega))
  have z21 := z21.kept (e24 (s.heap.size + 136) (by omega) (by omega)) (fun q9 h8 h9 => e24 q9 (by omega) (by omega))
  have z24 := q24
  rw [show H23.size = s.heap.size + 164 from N23.1] at z24
  refine n_as (t := 5) (T := TX5) C N24 o22 z24.1 (by omega) rfl rfl (by decide) (by decide) dX7_init_43 (fun H25 L25 N25 o25 e25 => ?_)
  have o4 := o4.kept (e25 a0 (by omega))
  have z6 := z6.kept (e25 (s.heap.size + 1) (by omega)) (fun q9 h8 h9 => e25 q9 (by omega))
  have z9 := z9.kept (e25 (s.heap.size + 28) (by omega)) (fun q9 h8 h9 => e25 q9 (by omega))
  have z12 := z12.kept (e25 (s.heap.size + 55) (by omega)) (fun q9 h8 h9 => e25 q9 (by omega))
  have z15 := z15.kept (e25 (s.heap.size + 82) (by omega)) (fun q9 h8 h9 => e25 q9 (by omega))
  have z18 := z18.kept (e25 (s.heap.size + 109) (by omega)) (fun q9 h8 h9 => e25 q9 (by omega))
  have z21 := z21.kept (e25 (s.heap.size + 136) (by omega)) (fun q9 h8 h9 => e25 q9 (by omega))
  have z24 := z24.kept (e25 (s.heap.size + 163) (by omega)) (fun q9 h8 h9 => e25 q9 (by omega))
  refine lv_iinc (v := (7 : Int32)) (lv' := [(1, .int (7 : Int32)), (0, .ref a0)]) hx hb dX7_init_44 hl (k := 0) rfl (by decide) (by decide) rfl (fun ls hl => ?_)
  refine lv_goto (tgt := 25) hx hb dX7_init_47 (by decide) ?_
  refine lv_iload_n hx hb dX7_init_25 rfl (lv_at hl 0 rfl) ?_
  refine lv_bipush (v := 12) hx hb dX7_init_26 (by decide) ?_
  refine lv_icmp_ge (tgt := 50) hx hb dX7_init_28 (by decide) (fun c9 => ?_) (fun c9 => ?_)
  · exact absurd c9 (by decide)
  refine lv_aload_n hx hb dX7_init_31 rfl (lv_at hl 1 rfl) ?_
  refine n_get (T := TX7) (v := .ref s.heap.size) C o4 0 kF_X7_11 dX7_init_32 rfl (by decide) rfl rfl ?_
  refine lv_iload_n hx hb dX7_init_35 rfl (lv_at hl 0 rfl) ?_
  refine n_new (ci := 5) (T := TX5) (b := (s.heap.size + 190)) C N25 rfl kn_X7_9 dX7_init_36 rfl ⟨Nat.le_of_ble_eq_true rfl, Nat.le_of_ble_eq_true rfl⟩ (fun H26 N26 o26 e26 => ?_)
  have o4 := o4.kept (e26 a0 (by omega))
  have o25 := (e26 s.heap.size (by omega)).trans o25
  have z6 := z6.kept (e26 (s.heap.size + 1) (by omega)) (fun q9 h8 h9 => e26 q9 (by omega))
  have z9 := z9.kept (e26 (s.heap.size + 28) (by omega)) (fun q9 h8 h9 => e26 q9 (by omega))
  have z12 := z12.kept (e26 (s.heap.size + 55) (by omega)) (fun q9 h8 h9 => e26 q9 (by omega))
  have z15 := z15.kept (e26 (s.heap.size + 82) (by omega)) (fun q9 h8 h9 => e26 q9 (by omega))
  have z18 := z18.kept (e26 (s.heap.size + 109) (by omega)) (fun q9 h8 h9 => e26 q9 (by omega))
  have z21 := z21.kept (e26 (s.heap.size + 136) (by omega)) (fun q9 h8 h9 => e26 q9 (by omega))
  have z24 := z24.kept (e26 (s.heap.size + 163) (by omega)) (fun q9 h8 h9 => e26 q9 (by omega))
  refine lv_dup hx hb dX7_init_39 rfl ?_
  refine n_call (As := []) C N26 (c_X5_init l D (s.heap.size + 190)) kJ_X7_22 (Or.inr (by omega)) o26 dX7_init_40 hl.1 rfl cd_X5_init ⟨Nat.le_of_ble_eq_true rfl, Nat.le_of_ble_eq_true rfl, Nat.le_of_ble_eq_true rfl, Nat.le_of_ble_eq_true rfl, Nat.le_of_ble_eq_true rfl⟩ (fun H27 L27 N27 e27 q27 => ?_)
  have o4 := o4.kept (e27 a0 (by omega) (by omega))
  have o25 := (e27 s.heap.size (by omega) (by omega)).trans o25
  have z6 := z6.kept (e27 (s.heap.size + 1) (by omega) (by omega)) (fun q9 h8 h9 => e27 q9 (by omega) (by omega))
  have z9 := z9.kept (e27 (s.heap.size + 28) (by omega) (by omega)) (fun q9 h8 h9 => e27 q9 (by omega) (by omega))
  have z12 := z12.kept (e27 (s.heap.size + 55) (by omega) (by omega)) (fun q9 h8 h9 => e27 q9 (by omega) (by omega))
  have z15 := z15.kept (e27 (s.heap.size + 82) (by omega) (by omega)) (fun q9 h8 h9 => e27 q9 (by omega) (by omega))
  have z18 := z18.kept (e27 (s.heap.size + 109) (by omega) (by omega)) (fun q9 h8 h9 => e27 q9 (by omega) (by omega))
  have z21 := z21.kept (e27 (s.heap.size + 136) (by omega) (by omega)) (fun q9 h8 h9 => e27 q9 (by omega) (by omega))
  have z24 := z24.kept (e27 (s.heap.size + 163) (by omega) (by omega)) (fun q9 h8 h9 => e27 q9 (by omega) (by omega))
  have z27 := q27
  rw [show H26.size = s.heap.size + 191 from N26.1] at z27
  refine n_as (t := 5) (T := TX5) C N27 o25 z27.1 (by omega) rfl rfl (by decide) (by decide) dX7_init_43 (fun H28 L28 N28 o28 e28 => ?_)
  have o4 := o4.kept (e28 a0 (by omega))
  have z6 := z6.kept (e28 (s.heap.size + 1) (by omega)) (fun q9 h8 h9 => e28 q9 (by omega))
  have z9 := z9.kept (e28 (s.heap.size + 28) (by omega)) (fun q9 h8 h9 => e28 q9 (by omega))
  have z12 := z12.kept (e28 (s.heap.size + 55) (by omega)) (fun q9 h8 h9 => e28 q9 (by omega))
  have z15 := z15.kept (e28 (s.heap.size + 82) (by omega)) (fun q9 h8 h9 => e28 q9 (by omega))
  have z18 := z18.kept (e28 (s.heap.size + 109) (by omega)) (fun q9 h8 h9 => e28 q9 (by omega))
  have z21 := z21.kept (e28 (s.heap.size + 136) (by omega)) (fun q9 h8 h9 => e28 q9 (by omega))
  have z24 := z24.kept (e28 (s.heap.size + 163) (by omega)) (fun q9 h8 h9 => e28 q9 (by omega))
  have z27 := z27.kept (e28 (s.heap.size + 190) (by omega)) (fun q9 h8 h9 => e28 q9 (by omega))
  refine lv_iinc (v := (8 : Int32)) (lv' := [(1, .int (8 : Int32)), (0, .ref a0)]) hx hb dX7_init_44 hl (k := 0) rfl (by decide) (by decide) rfl (fun ls hl => ?_)
  refine lv_goto (tgt := 25) hx hb dX7_init_47 (by decide) ?_
  refine lv_iload_n hx hb dX7_init_25 rfl (lv_at hl 0 rfl) ?_
  refine lv_bipush (v := 12) hx hb dX7_init_26 (by decide) ?_
  refine lv_icmp_ge (tgt := 50) hx hb dX7_init_28 (by decide) (fun c9 => ?_) (fun c9 => ?_)
  · exact absurd c9 (by decide)
  refine lv_aload_n hx hb dX7_init_31 rfl (lv_at hl 1 rfl) ?_
  refine n_get (T := TX7) (v := .ref s.heap.size) C o4 0 kF_X7_11 dX7_init_32 rfl (by decide) rfl rfl ?_
  refine lv_iload_n hx hb dX7_init_35 rfl (lv_at hl 0 rfl) ?_
  refine n_new (ci := 5) (T := TX5) (b := (s.heap.size + 217)) C N28 rfl kn_X7_9 dX7_init_36 rfl ⟨Nat.le_of_ble_eq_true rfl, Nat.le_of_ble_eq_true rfl⟩ (fun H29 N29 o29 e29 => ?_)
  have o4 := o4.kept (e29 a0 (by omega))
  have o28 := (e29 s.heap.size (by omega)).trans o28
  have z6 := z6.kept (e29 (s.heap.size + 1) (by omega)) (fun q9 h8 h9 => e29 q9 (by omega))
  have z9 := z9.kept (e29 (s.heap.size + 28) (by omega)) (fun q9 h8 h9 => e29 q9 (by omega))
  have z12 := z12.kept (e29 (s.heap.size + 55) (by omega)) (fun q9 h8 h9 => e29 q9 (by omega))
  have z15 := z15.kept (e29 (s.heap.size + 82) (by omega)) (fun q9 h8 h9 => e29 q9 (by omega))
  have z18 := z18.kept (e29 (s.heap.size + 109) (by omega)) (fun q9 h8 h9 => e29 q9 (by omega))
  have z21 := z21.kept (e29 (s.heap.size + 136) (by omega)) (fun q9 h8 h9 => e29 q9 (by omega))
  have z24 := z24.kept (e29 (s.heap.size + 163) (by omega)) (fun q9 h8 h9 => e29 q9 (by omega))
  have z27 := z27.kept (e29 (s.heap.size + 190) (by omega)) (fun q9 h8 h9 => e29 q9 (by omega))
  refine lv_dup hx hb dX7_init_39 rfl ?_
  refine n_call (As := []) C N29 (c_X5_init l D (s.heap.size + 217)) kJ_X7_22 (Or.inr (by omega)) o29 dX7_init_40 hl.1 rfl cd_X5_init ⟨Nat.le_of_ble_eq_true rfl, Nat.le_of_ble_eq_true rfl, Nat.le_of_ble_eq_true rfl, Nat.le_of_ble_eq_true rfl, Nat.le_of_ble_eq_true rfl⟩ (fun H30 L30 N30 e30 q30 => ?_)
  have o4 := o4.kept (e30 a0 (by omega) (by omega))
  have o28 := (e30 s.heap.size (by omega) (by omega)).trans o28
  have z6 := z6.kept (e30 (s.heap.size + 1) (by omega) (by omega)) (fun q9 h8 h9 => e30 q9 (by omega) (by omega))
  have z9 := z9.kept (e30 (s.heap.size + 28) (by omega) (by omega)) (fun q9 h8 h9 => e30 q9 (by omega) (by omega))
  have z12 := z12.kept (e30 (s.heap.size + 55) (by omega) (by omega)) (fun q9 h8 h9 => e30 q9 (by omega) (by omega))
  have z15 := z15.kept (e30 (s.heap.size + 82) (by omega) (by omega)) (fun q9 h8 h9 => e30 q9 (by omega) (by omega))
  have z18 := z18.kept (e30 (s.heap.size + 109) (by omega) (by omega)) (fun q9 h8 h9 => e30 q9 (by omega) (by omega))
  have z21 := z21.kept (e30 (s.heap.size + 136) (by omega) (by omega)) (fun q9 h8 h9 => e30 q9 (by omega) (by omega))
  have z24 := z24.kept (e30 (s.heap.size + 163) (by omega) (by omega)) (fun q9 h8 h9 => e30 q9 (by omega) (by omega))
  have z27 := z27.kept (e30 (s.heap.size + 190) (by omega) (by omega)) (fun q9 h8 h9 => e30 q9 (by omega) (by omega))
  have z30 := q30
  rw [show H29.size = s.heap.size + 218 from N29.1] at z30
  refine n_as (t := 5) (T := TX5) C N30 o28 z30.1 (by omega) rfl rfl (by decide) (by decide) dX7_init_43 (fun H31 L31 N31 o31 e31 => ?_)
  have o4 := o4.kept (e31 a0 (by omega))
  have z6 := z6.kept (e31 (s.heap.size + 1) (by omega)) (fun q9 h8 h9 => e31 q9 (by omega))
  have z9 := z9.kept (e31 (s.heap.size + 28) (by omega)) (fun q9 h8 h9 => e31 q9 (by omega))
  have z12 := z12.kept (e31 (s.heap.size + 55) (by omega)) (fun q9 h8 h9 => e31 q9 (by omega))
  have z15 := z15.kept (e31 (s.heap.size + 82) (by omega)) (fun q9 h8 h9 => e31 q9 (by omega))
  have z18 := z18.kept (e31 (s.heap.size + 109) (by omega)) (fun q9 h8 h9 => e31 q9 (by omega))
  have z21 := z21.kept (e31 (s.heap.size + 136) (by omega)) (fun q9 h8 h9 => e31 q9 (by omega))
  have z24 := z24.kept (e31 (s.heap.size + 163) (by omega)) (fun q9 h8 h9 => e31 q9 (by omega))
  have z27 := z27.kept (e31 (s.heap.size + 190) (by omega)) (fun q9 h8 h9 => e31 q9 (by omega))
  have z30 := z30.kept (e31 (s.heap.size + 217) (by omega)) (fun q9 h8 h9 => e31 q9 (by omega))
  refine lv_iinc (v := (9 : Int32)) (lv' := [(1, .int (9 : Int32)), (0, .ref a0)]) hx hb dX7_init_44 hl (k := 0) rfl (by decide) (by decide) rfl (fun ls hl => ?_)
  refine lv_goto (tgt := 25) hx hb dX7_init_47 (by decide) ?_
  refine lv_iload_n hx hb dX7_init_25 rfl (lv_at hl 0 rfl) ?_
  refine lv_bipush (v := 12) hx hb dX7_init_26 (by decide) ?_
  refine lv_icmp_ge (tgt := 50) hx hb dX7_init_28 (by decide) (fun c9 => ?_) (fun c9 => ?_)
  · exact absurd c9 (by decide)
  refine lv_aload_n hx hb dX7_init_31 rfl (lv_at hl 1 rfl) ?_
  refine n_get (T := TX7) (v := .ref s.heap.size) C o4 0 kF_X7_11 dX7_init_32 rfl (by decide) rfl rfl ?_
  refine lv_iload_n hx hb dX7_init_35 rfl (lv_at hl 0 rfl) ?_
  refine n_new (ci := 5) (T := TX5) (b := (s.heap.size + 244)) C N31 rfl kn_X7_9 dX7_init_36 rfl ⟨Nat.le_of_ble_eq_true rfl, Nat.le_of_ble_eq_true rfl⟩ (fun H32 N32 o32 e32 => ?_)
  have o4 := o4.kept (e32 a0 (by omega))
  have o31 := (e32 s.heap.size (by omega)).trans o31
  have z6 := z6.kept (e32 (s.heap.size + 1) (by omega)) (fun q9 h8 h9 => e32 q9 (by omega))
  have z9 := z9.kept (e32 (s.heap.size + 28) (by omega)) (fun q9 h8 h9 => e32 q9 (by omega))
  have z12 := z12.kept (e32 (s.heap.size + 55) (by omega)) (fun q9 h8 h9 => e32 q9 (by omega))
  have z15 := z15.kept (e32 (s.heap.size + 82) (by omega)) (fun q9 h8 h9 => e32 q9 (by omega))
  have z18 := z18.kept (e32 (s.heap.size + 109) (by omega)) (fun q9 h8 h9 => e32 q9 (by omega))
  have z21 := z21.kept (e32 (s.heap.size + 136) (by omega)) (fun q9 h8 h9 => e32 q9 (by omega))
  have z24 := z24.kept (e32 (s.heap.size + 163) (by omega)) (fun q9 h8 h9 => e32 q9 (by omega))
  have z27 := z27.kept (e32 (s.heap.size + 190) (by omega)) (fun q9 h8 h9 => e32 q9 (by omega))
  have z30 := z30.kept (e32 (s.heap.size + 217) (by omega)) (fun q9 h8 h9 => e32 q9 (by omega))
  refine lv_dup hx hb dX7_init_39 rfl ?_
  refine n_call (As := []) C N32 (c_X5_init l D (s.heap.size + 244)) kJ_X7_22 (Or.inr (by omega)) o32 dX7_init_40 hl.1 rfl cd_X5_init ⟨Nat.le_of_ble_eq_true rfl, Nat.le_of_ble_eq_true rfl, Nat.le_of_ble_eq_true rfl, Nat.le_of_ble_eq_true rfl, Nat.le_of_ble_eq_true rfl⟩ (fun H33 L33 N33 e33 q33 => ?_)
  have o4 := o4.kept (e33 a0 (by omega) (by omega))
  have o31 := (e33 s.heap.size (by omega) (by omega)).trans o31
  have z6 := z6.kept (e33 (s.heap.size + 1) (by omega) (by omega)) (fun q9 h8 h9 => e33 q9 (by omega) (by omega))
  have z9 := z9.kept (e33 (s.heap.size + 28) (by omega) (by omega)) (fun q9 h8 h9 => e33 q9 (by omega) (by omega))
  have z12 := z12.kept (e33 (s.heap.size + 55) (by omega) (by omega)) (fun q9 h8 h9 => e33 q9 (by omega) (by omega))
  have z15 := z15.kept (e33 (s.heap.size + 82) (by omega) (by omega)) (fun q9 h8 h9 => e33 q9 (by omega) (by omega))
  have z18 := z18.kept (e33 (s.heap.size + 109) (by omega) (by omega)) (fun q9 h8 h9 => e33 q9 (by omega) (by omega))
  have z21 := z21.kept (e33 (s.heap.size + 136) (by omega) (by omega)) (fun q9 h8 h9 => e33 q9 (by omega) (by omega))
  have z24 := z24.kept (e33 (s.heap.size + 163) (by omega) (by omega)) (fun q9 h8 h9 => e33 q9 (by omega) (by omega))
  have z27 := z27.kept (e33 (s.heap.size + 190) (by omega) (by omega)) (fun q9 h8 h9 => e33 q9 (by omega) (by omega))
  have z30 := z30.kept (e33 (s.heap.size + 217) (by omega) (by omega)) (fun q9 h8 h9 => e33 q9 (by omega) (by omega))
  have z33 := q33
  rw [show H32.size = s.heap.size + 245 from N32.1] at z33
  refine n_as (t := 5) (T := TX5) C N33 o31 z33.1 (by omega) rfl rfl (by decide) (by decide) dX7_init_43 (fun H34 L34 N34 o34 e34 => ?_)
  have o4 := o4.kept (e34 a0 (by omega))
  have z6 := z6.kept (e34 (s.heap.size + 1) (by omega)) (fun q9 h8 h9 => e34 q9 (by omega))
  have z9 := z9.kept (e34 (s.heap.size + 28) (by omega)) (fun q9 h8 h9 => e34 q9 (by omega))
  have z12 := z12.kept (e34 (s.heap.size + 55) (by omega)) (fun q9 h8 h9 => e34 q9 (by omega))
  have z15 := z15.kept (e34 (s.heap.size + 82) (by omega)) (fun q9 h8 h9 => e34 q9 (by omega))
  have z18 := z18.kept (e34 (s.heap.size + 109) (by omega)) (fun q9 h8 h9 => e34 q9 (by omega))
  have z21 := z21.kept (e34 (s.heap.size + 136) (by omega)) (fun q9 h8 h9 => e34 q9 (by omega))
  have z24 := z24.kept (e34 (s.heap.size + 163) (by omega)) (fun q9 h8 h9 => e34 q9 (by omega))
  have z27 := z27.kept (e34 (s.heap.size + 190) (by omega)) (fun q9 h8 h9 => e34 q9 (by omega))
  have z30 := z30.kept (e34 (s.heap.size + 217) (by omega)) (fun q9 h8 h9 => e34 q9 (by omega))
  have z33 := z33.kept (e34 (s.heap.size + 244) (by omega)) (fun q9 h8 h9 => e34 q9 (by omega))
  refine lv_iinc (v := (10 : Int32)) (lv' := [(1, .int (10 : Int32)), (0, .ref a0)]) hx hb dX7_init_44 hl (k := 0) rfl (by decide) (by decide) rfl (fun ls hl => ?_)
  refine lv_goto (tgt := 25) hx hb dX7_init_47 (by decide) ?_
  refine lv_iload_n hx hb dX7_init_25 rfl (lv_at hl 0 rfl) ?_
  refine lv_bipush (v := 12) hx hb dX7_init_26 (by decide) ?_
  refine lv_icmp_ge (tgt := 50) hx hb dX7_init_28 (by decide) (fun c9 => ?_) (fun c9 => ?_)
  · exact absurd c9 (by decide)
  refine lv_aload_n hx hb dX7_init_31 rfl (lv_at hl 1 rfl) ?_
  refine n_get (T := TX7) (v := .ref s.heap.size) C o4 0 kF_X7_11 dX7_init_32 rfl (by decide) rfl rfl ?_
  refine lv_iload_n hx hb dX7_init_35 rfl (lv_at hl 0 rfl) ?_
  refine n_new (ci := 5) (T := TX5) (b := (s.heap.size + 271)) C N34 rfl kn_X7_9 dX7_init_36 rfl ⟨Nat.le_of_ble_eq_true rfl, Nat.le_of_ble_eq_true rfl⟩ (fun H35 N35 o35 e35 => ?_)
  have o4 := o4.kept (e35 a0 (by omega))
  have o34 := (e35 s.heap.size (by omega)).trans o34
  have z6 := z6.kept (e35 (s.heap.size + 1) (by omega)) (fun q9 h8 h9 => e35 q9 (by omega))
  have z9 := z9.kept (e35 (s.heap.size + 28) (by omega)) (fun q9 h8 h9 => e35 q9 (by omega))
  have z12 := z12.kept (e35 (s.heap.size + 55) (by omega)) (fun q9 h8 h9 => e35 q9 (by omega))
  have z15 := z15.kept (e35 (s.heap.size + 82) (by omega)) (fun q9 h8 h9 => e35 q9 (by omega))
  have z18 := z18.kept (e35 (s.heap.size + 109) (by omega)) (fun q9 h8 h9 => e35 q9 (by omega))
  have z21 := z21.kept (e35 (s.heap.size + 136) (by omega)) (fun q9 h8 h9 => e35 q9 (by omega))
  have z24 := z24.kept (e35 (s.heap.size + 163) (by omega)) (fun q9 h8 h9 => e35 q9 (by omega))
  have z27 := z27.kept (e35 (s.heap.size + 190) (by omega)) (fun q9 h8 h9 => e35 q9 (by omega))
  have z30 := z30.kept (e35 (s.heap.size + 217) (by omega)) (fun q9 h8 h9 => e35 q9 (by omega))
  have z33 := z33.kept (e35 (s.heap.size + 244) (by omega)) (fun q9 h8 h9 => e35 q9 (by omega))
  refine lv_dup hx hb dX7_init_39 rfl ?_
  refine n_call (As := []) C N35 (c_X5_init l D (s.heap.size + 271)) kJ_X7_22 (Or.inr (by omega)) o35 dX7_init_40 hl.1 rfl cd_X5_init ⟨Nat.le_of_ble_eq_true rfl, Nat.le_of_ble_eq_true rfl, Nat.le_of_ble_eq_true rfl, Nat.le_of_ble_eq_true rfl, Nat.le_of_ble_eq_true rfl⟩ (fun H36 L36 N36 e36 q36 => ?_)
  have o4 := o4.kept (e36 a0 (by omega) (by omega))
  have o34 := (e36 s.heap.size (by omega) (by omega)).trans o34
  have z6 := z6.kept (e36 (s.heap.size + 1) (by omega) (by omega)) (fun q9 h8 h9 => e36 q9 (by omega) (by omega))
  have z9 := z9.kept (e36 (s.heap.size + 28) (by omega) (by omega)) (fun q9 h8 h9 => e36 q9 (by omega) (by omega))
  have z12 := z12.kept (e36 (s.heap.size + 55) (by omega) (by omega)) (fun q9 h8 h9 => e36 q9 (by omega) (by omega))
  have z15 := z15.kept (e36 (s.heap.size + 82) (by omega) (by omega)) (fun q9 h8 h9 => e36 q9 (by omega) (by omega))
  have z18 := z18.kept (e36 (s.heap.size + 109) (by omega) (by omega)) (fun q9 h8 h9 => e36 q9 (by omega) (by omega))
  have z21 := z21.kept (e36 (s.heap.size + 136) (by omega) (by omega)) (fun q9 h8 h9 => e36 q9 (by omega) (by omega))
  have z24 := z24.kept (e36 (s.heap.size + 163) (by omega) (by omega)) (fun q9 h8 h9 => e36 q9 (by omega) (by omega))
  have z27 := z27.kept (e36 (s.heap.size + 190) (by omega) (by omega)) (fun q9 h8 h9 => e36 q9 (by omega) (by omega))
  have z30 := z30.kept (e36 (s.heap.size + 217) (by omega) (by omega)) (fun q9 h8 h9 => e36 q9 (by omega) (by omega))
  have z33 := z33.kept (e36 (s.heap.size + 244) (by omega) (by omega)) (fun q9 h8 h9 => e36 q9 (by omega) (by omega))
  have z36 := q36
  rw [show H35.size = s.heap.size + 272 from N35.1] at z36
  refine n_as (t := 5) (T := TX5) C N36 o34 z36.1 (by omega) rfl rfl (by decide) (by decide) dX7_init_43 (fun H37 L37 N37 o37 e37 => ?_)
  have o4 := o4.kept (e37 a0 (by omega))
  have z6 := z6.kept (e37 (s.heap.size + 1) (by omega)) (fun q9 h8 h9 => e37 q9 (by omega))
  have z9 := z9.kept (e37 (s.heap.size + 28) (by omega)) (fun q9 h8 h9 => e37 q9 (by omega))
  have z12 := z12.kept (e37 (s.heap.size + 55) (by omega)) (fun q9 h8 h9 => e37 q9 (by omega))
  have z15 := z15.kept (e37 (s.heap.size + 82) (by omega)) (fun q9 h8 h9 => e37 q9 (by omega))
  have z18 := z18.kept (e37 (s.heap.size + 109) (by omega)) (fun q9 h8 h9 => e37 q9 (by omega))
  have z21 := z21.kept (e37 (s.heap.size + 136) (by omega)) (fun q9 h8 h9 => e37 q9 (by omega))
  have z24 := z24.kept (e37 (s.heap.size + 163) (by omega)) (fun q9 h8 h9 => e37 q9 (by omega))
  have z27 := z27.kept (e37 (s.heap.size + 190) (by omega)) (fun q9 h8 h9 => e37 q9 (by omega))
  have z30 := z30.kept (e37 (s.heap.size + 217) (by omega)) (fun q9 h8 h9 => e37 q9 (by omega))
  have z33 := z33.kept (e37 (s.heap.size + 244) (by omega)) (fun q9 h8 h9 => e37 q9 (by omega))
  have z36 := z36.kept (e37 (s.heap.size + 271) (by omega)) (fun q9 h8 h9 => e37 q9 (by omega))
  refine lv_iinc (v := (11 : Int32)) (lv' := [(1, .int (11 : Int32)), (0, .ref a0)]) hx hb dX7_init_44 hl (k := 0) rfl (by decide) (by decide) rfl (fun ls hl => ?_)
  refine lv_goto (tgt := 25) hx hb dX7_init_47 (by decide) ?_
  refine lv_iload_n hx hb dX7_init_25 rfl (lv_at hl 0 rfl) ?_
  refine lv_bipush (v := 12) hx hb dX7_init_26 (by decide) ?_
  refine lv_icmp_ge (tgt := 50) hx hb dX7_init_28 (by decide) (fun c9 => ?_) (fun c9 => ?_)
  · exact absurd c9 (by decide)
  refine lv_aload_n hx hb dX7_init_31 rfl (lv_at hl 1 rfl) ?_
  refine n_get (T := TX7) (v := .ref s.heap.size) C o4 0 kF_X7_11 dX7_init_32 rfl (by decide) rfl rfl ?_
  refine lv_iload_n hx hb dX7_init_35 rfl (lv_at hl 0 rfl) ?_
  refine n_new (ci := 5) (T := TX5) (b := (s.heap.size + 298)) C N37 rfl kn_X7_9 dX7_init_36 rfl ⟨Nat.le_of_ble_eq_true rfl, Nat.le_of_ble_eq_true rfl⟩ (fun H38 N38 o38 e38 => ?_)
  have o4 := o4.kept (e38 a0 (by omega))
  have o37 := (e38 s.heap.size (by omega)).trans o37
  have z6 := z6.kept (e38 (s.heap.size + 1) (by omega)) (fun q9 h8 h9 => e38 q9 (by omega))
  have z9 := z9.kept (e38 (s.heap.size + 28) (by omega)) (fun q9 h8 h9 => e38 q9 (by omega))
  have z12 := z12.kept (e38 (s.heap.size + 55) (by omega)) (fun q9 h8 h9 => e38 q9 (by omega))
  have z15 := z15.kept (e38 (s.heap.size + 82) (by omega)) (fun q9 h8 h9 => e38 q9 (by omega))
  have z18 := z18.kept (e38 (s.heap.size + 109) (by omega)) (fun q9 h8 h9 => e38 q9 (by omega))
  have z21 := z21.kept (e38 (s.heap.size + 136) (by omega)) (fun q9 h8 h9 => e38 q9 (by omega))
  have z24 := z24.kept (e38 (s.heap.size + 163) (by omega)) (fun q9 h8 h9 => e38 q9 (by omega))
  have z27 := z27.kept (e38 (s.heap.size + 190) (by omega)) (fun q9 h8 h9 => e38 q9 (by omega))
  have z30 := z30.kept (e38 (s.heap.size + 217) (by omega)) (fun q9 h8 h9 => e38 q9 (by omega))
  have z33 := z33.kept (e38 (s.heap.size + 244) (by omega)) (fun q9 h8 h9 => e38 q9 (by omega))
  have z36 := z36.kept (e38 (s.heap.size + 271) (by omega)) (fun q9 h8 h9 => e38 q9 (by omega))
  refine lv_dup hx hb dX7_init_39 rfl ?_
  refine n_call (As := []) C N38 (c_X5_init l D (s.heap.size + 298)) kJ_X7_22 (Or.inr (by omega)) o38 dX7_init_40 hl.1 rfl cd_X5_init ⟨Nat.le_of_ble_eq_true rfl, Nat.le_of_ble_eq_true rfl, Nat.le_of_ble_eq_true rfl, Nat.le_of_ble_eq_true rfl, Nat.le_of_ble_eq_true rfl⟩ (fun H39 L39 N39 e39 q39 => ?_)
  have o4 := o4.kept (e39 a0 (by omega) (by omega))
  have o37 := (e39 s.heap.size (by omega) (by omega)).trans o37
  have z6 := z6.kept (e39 (s.heap.size + 1) (by omega) (by omega)) (fun q9 h8 h9 => e39 q9 (by omega) (by omega))
  have z9 := z9.kept (e39 (s.heap.size + 28) (by omega) (by omega)) (fun q9 h8 h9 => e39 q9 (by omega) (by omega))
  have z12 := z12.kept (e39 (s.heap.size + 55) (by omega) (by omega)) (fun q9 h8 h9 => e39 q9 (by omega) (by omega))
  have z15 := z15.kept (e39 (s.heap.size + 82) (by omega) (by omega)) (fun q9 h8 h9 => e39 q9 (by omega) (by omega))
  have z18 := z18.kept (e39 (s.heap.size + 109) (by omega) (by omega)) (fun q9 h8 h9 => e39 q9 (by omega) (by omega))
  have z21 := z21.kept (e39 (s.heap.size + 136) (by omega) (by omega)) (fun q9 h8 h9 => e39 q9 (by omega) (by omega))
  have z24 := z24.kept (e39 (s.heap.size + 163) (by omega) (by omega)) (fun q9 h8 h9 => e39 q9 (by omega) (by omega))
  have z27 := z27.kept (e39 (s.heap.size + 190) (by omega) (by omega)) (fun q9 h8 h9 => e39 q9 (by omega) (by omega))
  have z30 := z30.kept (e39 (s.heap.size + 217) (by omega) (by omega)) (fun q9 h8 h9 => e39 q9 (by omega) (by omega))
  have z33 := z33.kept (e39 (s.heap.size + 244) (by omega) (by omega)) (fun q9 h8 h9 => e39 q9 (by omega) (by omega))
  have z36 := z36.kept (e39 (s.heap.size + 271) (by omega) (by omega)) (fun q9 h8 h9 => e39 q9 (by omega) (by omega))
  have z39 := q39
  rw [show H38.size = s.heap.size + 299 from N38.1] at z39
  refine n_as (t := 5) (T := TX5) C N39 o37 z39.1 (by omega) rfl rfl (by decide) (by decide) dX7_init_43 (fun H40 L40 N40 o40 e40 => ?_)
  have o4 := o4.kept (e40 a0 (by omega))
  have z6 := z6.kept (e40 (s.heap.size + 1) (by omega)) (fun q9 h8 h9 => e40 q9 (by omega))
  have z9 := z9.kept (e40 (s.heap.size + 28) (by omega)) (fun q9 h8 h9 => e40 q9 (by omega))
  have z12 := z12.kept (e40 (s.heap.size + 55) (by omega)) (fun q9 h8 h9 => e40 q9 (by omega))
  have z15 := z15.kept (e40 (s.heap.size + 82) (by omega)) (fun q9 h8 h9 => e40 q9 (by omega))
  have z18 := z18.kept (e40 (s.heap.size + 109) (by omega)) (fun q9 h8 h9 => e40 q9 (by omega))
  have z21 := z21.kept (e40 (s.heap.size + 136) (by omega)) (fun q9 h8 h9 => e40 q9 (by omega))
  have z24 := z24.kept (e40 (s.heap.size + 163) (by omega)) (fun q9 h8 h9 => e40 q9 (by omega))
  have z27 := z27.kept (e40 (s.heap.size + 190) (by omega)) (fun q9 h8 h9 => e40 q9 (by omega))
  have z30 := z30.kept (e40 (s.heap.size + 217) (by omega)) (fun q9 h8 h9 => e40 q9 (by omega))
  have z33 := z33.kept (e40 (s.heap.size + 244) (by omega)) (fun q9 h8 h9 => e40 q9 (by omega))
  have z36 := z36.kept (e40 (s.heap.size + 271) (by omega)) (fun q9 h8 h9 => e40 q9 (by omega))
  have z39 := z39.kept (e40 (s.heap.size + 298) (by omega)) (fun q9 h8 h9 => e40 q9 (by omega))
  refine lv_iinc (v := (12 : Int32)) (lv' := [(1, .int (12 : Int32)), (0, .ref a0)]) hx hb dX7_init_44 hl (k := 0) rfl (by decide) (by decide) rfl (fun ls hl => ?_)
  refine lv_goto (tgt := 25) hx hb dX7_init_47 (by decide) ?_
  refine lv_iload_n hx hb dX7_init_25 rfl (lv_at hl 0 rfl) ?_
  refine lv_bipush (v := 12) hx hb dX7_init_26 (by decide) ?_
  refine lv_icmp_ge (tgt := 50) hx hb dX7_init_28 (by decide) (fun c9 => ?_) (fun c9 => ?_)
  rotate_left
  · exact absurd (by decide) c9
  exact n_ret hQ C N40 hr dX7_init_50 (by decide) (by decide) (⟨o4.to (fun k hk => match k, hk with | 0, _ => rfl | 1, _ => rfl | 2, _ => rfl | k + 3, hk => absurd hk (by omega)), o40.trans (congrArg some (arrV_congr (fun j hj => match j, hj with | 0, _ => rfl | 1, _ => rfl | 2, _ => rfl | 3, _ => rfl | 4, _ => rfl | 5, _ => rfl | 6, _ => rfl | 7, _ => rfl | 8, _ => rfl | 9, _ => rfl | 10, _ => rfl | 11, _ => rfl | j + 12, hj => absurd hj (by omega)))), fun j hj => match j, hj with | 0, _ => z6 | 1, _ => z9 | 2, _ => z12 | 3, _ => z15 | 4, _ => z18 | 5, _ => z21 | 6, _ => z24 | 7, _ => z27 | 8, _ => z30 | 9, _ => z33 | 10, _ => z36 | 11, _ => z39 | j + 12, hj => absurd hj (by omega)⟩)
