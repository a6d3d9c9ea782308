
def TSh (D : DD) (H : Heap) (a n : Nat) : Prop := t_OB a (D.1.1 9) 7 (D.1.2 9) H (fun k => match k with | 0 => .ref n | 2 => .int (-1) | _ => .int 0) ∧ H[n]? = some (arrCell (D.2 0) 400 (fun _ => 0))
def SSh (D : DD) (H : Heap) (a n r : Nat) : Prop := t_OB a (D.1.1 8) 5 (D.1.2 8) H (fun k => match k with | 0 => .ref r | 1 => .ref n | _ => .int 0) ∧ H[n]? = some (arrCell (D.2 0) 84 (fun _ => 0))
def RSh (D : DD) (H : Heap) (a t r : Nat) : Prop := t_OB a (D.1.1 6) 3 (D.1.2 6) H (fun k => match k with | 0 => .ref t | 1 => .int 14 | _ => .ref r)
def LSh (D : DD) (H : Heap) (a n t : Nat) : Prop := t_OB a (D.1.1 4) 5 (D.1.2 4) H (fun k => match k with | 0 => .ref t | 1 => .int 12 | 2 => .ref n | _ => .int 0) ∧ H[n]? = some (arrCell (D.2 0) 400 (fun _ => 0))
def WSh (D : DD) (H : Heap) (a n r : Nat) (x : Int32) : Prop := t_OB a (D.1.1 3) 4 (D.1.2 3) H (fun k => match k with | 0 => .int x | 1 => .ref r | 2 => .ref n | _ => .ref (n + 1)) ∧ H[n]? = some (arrCell (D.2 0) 32 (fun _ => 0)) ∧ H[n + 1]? = some (arrCell (D.2 0) 13 (fun _ => 0))
def modF : Nat → Int32 := fun j => match j with | 5 => 2 | 6 => 5 | 7 => 50 | 8 => 1 | 11 => 1 | _ => 0
def MSh (D : DD) (H : Heap) (a n : Nat) : Prop := t_OB a (D.1.1 11) 18 (D.1.2 11) H (fun k => match k with | 1 => .ref n | 2 => .ref (n + 1) | 3 => .ref (n + 2) | 4 => .ref (n + 3) | 5 => .ref (n + 4) | 8 => .ref (n + 5) | 14 => .int (-1) | 15 => .ref (n + 6) | 17 => .ref (n + 7) | _ => .int 0) ∧ H[n]? = some (arrCell (D.2 0) 2052 modF) ∧ H[n + 1]? = some (arrCell (D.2 0) 1203 (fun _ => 0)) ∧ H[n + 2]? = some (arrCell (D.2 0) 1203 (fun _ => 0)) ∧ H[n + 3]? = some (arrCell (D.2 0) 354 (fun _ => 0)) ∧ H[n + 4]? = some (arrCell (D.2 0) 4248 (fun _ => 0)) ∧ H[n + 5]? = some (arrCell (D.2 1) 400 (fun _ => 0)) ∧ H[n + 6]? = some (arrCell (D.2 0) 5 (fun _ => 0)) ∧ H[n + 7]? = some (arrCell (D.2 0) 400 (fun _ => 0))
theorem TSh.kept {D : DD} {H H1 : Heap} {a n : Nat} (h : TSh D H a n) (h1 : H1[a]? = H[a]?) (h2 : ∀ q : Nat, n ≤ q → q < n + 1 → H1[q]? = H[q]?) : TSh D H1 a n := ⟨h.1.kept h1, by rw [h2 n (by omega) (by omega)]; exact h.2⟩
theorem SSh.kept {D : DD} {H H1 : Heap} {a n r : Nat} (h : SSh D H a n r) (h1 : H1[a]? = H[a]?) (h2 : ∀ q : Nat, n ≤ q → q < n + 1 → H1[q]? = H[q]?) : SSh D H1 a n r := ⟨h.1.kept h1, by rw [h2 n (by omega) (by omega)]; exact h.2⟩
theorem LSh.kept {D : DD} {H H1 : Heap} {a n t : Nat} (h : LSh D H a n t) (h1 : H1[a]? = H[a]?) (h2 : ∀ q : Nat, n ≤ q → q < n + 1 → H1[q]? = H[q]?) : LSh D H1 a n t := ⟨h.1.kept h1, by rw [h2 n (by omega) (by omega)]; exact h.2⟩
theorem RSh.kept {D : DD} {H H1 : Heap} {a t r : Nat} (h : RSh D H a t r) (h1 : H1[a]? = H[a]?) (h2 : ∀ q : Nat, 0 ≤ q → q < 0 → H1[q]? = H[q]?) : RSh D H1 a t r := t_OB.kept h h1
theorem ko_X9_3 : ∀ w ∈ ([.methodLink RX9 3 Lib.objectInit, .instanceMethod Lib.objectInit, .code Lib.objectInit ⟨#[0xb1]⟩ 1 none] : List Cond), w ∈ lw_good := mem_dec (by decide +kernel)
theorem ko_X8_3 : ∀ w ∈ ([.methodLink RX8 3 Lib.objectInit, .instanceMethod Lib.objectInit, .code Lib.objectInit ⟨#[0xb1]⟩ 1 none] : List Cond), w ∈ lw_good := mem_dec (by decide +kernel)
theorem ko_X10_1 : ∀ w ∈ ([.methodLink RX10 1 Lib.objectInit, .instanceMethod Lib.objectInit, .code Lib.objectInit ⟨#[0xb1]⟩ 1 none] : List Cond), w ∈ lw_good := mem_dec (by decide +kernel)
theorem kJ_X6_5 : ∀ w ∈ ([.methodLink RX6 5 yX10_init, .instanceMethod yX10_init, .initialized RX10, .code yX10_init cX10_init 3 none] : List Cond), w ∈ lw_good := mem_dec (by decide +kernel)
theorem kJ_X4_5 : ∀ w ∈ ([.methodLink RX4 5 yX10_init, .instanceMethod yX10_init, .initialized RX10, .code yX10_init cX10_init 3 none] : List Cond), w ∈ lw_good := mem_dec (by decide +kernel)
theorem ko_X3_3 : ∀ w ∈ ([.methodLink RX3 3 Lib.objectInit, .instanceMethod Lib.objectInit, .code Lib.objectInit ⟨#[0xb1]⟩ 1 none] : List Cond), w ∈ lw_good := mem_dec (by decide +kernel)
theorem ko_X12_7 : ∀ w ∈ ([.methodLink RX12 7 Lib.objectInit, .instanceMethod Lib.objectInit, .code Lib.objectInit ⟨#[0xb1]⟩ 1 none] : List Cond), w ∈ lw_good := mem_dec (by decide +kernel)
set_option maxRecDepth 100000 in
set_option maxHeartbeats 4000000 in
theorem c_X9_init (l : Launch) (D : DD) (a0 : Nat)   : CS l Ao D yX9_init cX9_init 1 0 1 400 [.ref a0] a0 (fun H => t_OB a0 (D.1.1 9) 7 (D.1.2 9) H (fun k => dflt (TX9 k).2.2.1)) (fun H0 H1 => TSh D H1 a0 H0.size) := by
  refine enterS (by decide) (Nat.le_of_ble_eq_true rfl) rfl ?_
  intro p e s m args below meth c ls Q hA hQ C hr hpre hl
  have hx := C.1
  have hb := C.2.1
  have hl : lv_has ls 1 [(0, .ref a0)] := hl
  have N0 : Nf s.heap s.heap [] a0 0 := ⟨rfl, fun _ _ _ => rfl, fun _ h => nomatch h⟩
  have ob := hpre
  have a0lt : a0 < s.heap.size := by obtain ⟨c9, h9, -⟩ := ob; exact (Array.getElem?_eq_some_iff.mp h9).1
  refine lv_aload_n hx hb dX9_init_0 rfl (lv_at hl 0 rfl) ?_
  refine n_obj C ko_X9_3 hl.1 dX9_init_1 ⟨Nat.le_of_ble_eq_true rfl, Nat.le_of_ble_eq_true rfl⟩ ?_
  refine lv_aload_n hx hb dX9_init_4 rfl (lv_at hl 0 rfl) ?_
  refine lv_sipush (v := 400) hx hb dX9_init_5 (by decide) ?_
  refine n_ai (N := 400) (b := s.heap.size) C N0 rfl kAI (by decide) (by decide) (by decide) ⟨Nat.le_of_ble_eq_true rfl, Nat.le_of_ble_eq_true rfl⟩ dX9_init_8 (fun H1 N1 o1 e1 => ?_)
  have ob := ob.kept (e1 a0 (by omega))
  refine n_put (T := TX9) C N1 ob 0 kF_X9_11 dX9_init_10 rfl (by decide) rfl rfl rfl rfl rfl (fun H2 L2 N2 o2 e2 => ?_)
  have o1 := (e2 s.heap.size (by omega)).trans o1
  refine lv_aload_n hx hb dX9_init_13 rfl (lv_at hl 0 rfl) ?_
  refine lv_iconst (v := 0) hx hb dX9_init_14 (by decide) ?_
  refine n_put (T := TX9) C N2 o2 1 kF_X9_15 dX9_init_15 rfl (by decide) rfl rfl rfl rfl rfl (fun H3 L3 N3 o3 e3 => ?_)
  have o1 := (e3 s.heap.size (by omega)).trans o1
  refine lv_aload_n hx hb dX9_init_18 rfl (lv_at hl 0 rfl) ?_
  refine lv_iconst (v := -1) hx hb dX9_init_19 (by decide) ?_
  refine n_put (T := TX9) C N3 o3 2 kF_X9_19 dX9_init_20 rfl (by decide) rfl rfl rfl rfl rfl (fun H4 L4 N4 o4 e4 => ?_)
  have o1 := (e4 s.heap.size (by omega)).trans o1
  refine lv_aload_n hx hb dX9_init_23 rfl (lv_at hl 0 rfl) ?_
  refine lv_iconst (v := 0) hx hb dX9_init_24 (by decide) ?_
  refine n_put (T := TX9) C N4 o4 3 kF_X9_22 dX9_init_25 rfl (by decide) rfl rfl rfl rfl rfl (fun H5 L5 N5 o5 e5 => ?_)
  have o1 := (e5 s.heap.size (by omega)).trans o1
  refine lv_aload_n hx hb dX9_init_28 rfl (lv_at hl 0 rfl) ?_
  refine lv_iconst (v := 0) hx hb dX9_init_29 (by decide) ?_
  refine n_put (T := TX9) C N5 o5 4 kF_X9_25 dX9_init_30 rfl (by decide) rfl rfl rfl rfl rfl (fun H6 L6 N6 o6 e6 => ?_)
  have o1 := (e6 s.heap.size (by omega)).trans o1
  refine lv_aload_n hx hb dX9_init_33 rfl (lv_at hl 0 rfl) ?_
  refine lv_iconst (v := 0) hx hb dX9_init_34 (by decide) ?_
  refine n_put (T := TX9) C N6 o6 5 kF_X9_28 dX9_init_35 rfl (by decide) rfl rfl rfl rfl rfl (fun H7 L7 N7 o7 e7 => ?_)
  have o1 := (e7 s.heap.size (by omega)).trans o1
  refine lv_aload_n hx hb dX9_init_38 rfl (lv_at hl 0 rfl) ?_
  refine lv_iconst (v := 0) hx hb dX9_init_39 (by decide) ?_
  refine n_put (T := TX9) C N7 o7 6 kF_X9_31 dX9_init_40 rfl (by decide) rfl rfl rfl rfl rfl (fun H8 L8 N8 o8 e8 => ?_)
  have o1 := (e8 s.heap.size (by omega)).trans o1
  exact n_ret hQ C N8 hr dX9_init_43 (by decide) (by decide) (⟨o8.to (fun k hk => match k, hk with | 0, _ => rfl | 1, _ => rfl | 2, _ => rfl | 3, _ => rfl | 4, _ => rfl | 5, _ => rfl | 6, _ => rfl | k + 7, hk => absurd hk (by omega)), o1⟩)

set_option maxRecDepth 100000 in
set_option maxHeartbeats 4000000 in
theorem c_X8_init (l : Launch) (D : DD) (a0 : Nat) (a1 : Nat)   : CS l Ao D yX8_init cX8_init 2 0 1 84 [.ref a0, .ref a1] a0 (fun H => t_OB a0 (D.1.1 8) 5 (D.1.2 8) H (fun k => dflt (TX8 k).2.2.1)) (fun H0 H1 => SSh D H1 a0 H0.size a1) := by
  refine enterS (by decide) (Nat.le_of_ble_eq_true rfl) rfl ?_
  intro p e s m args below meth c ls Q hA hQ C hr hpre hl
  have hx := C.1
  have hb := C.2.1
  have hl : lv_has ls 2 [(0, .ref a0), (1, .ref a1)] := hl
  have N0 : Nf s.heap s.heap [] a0 0 := ⟨rfl, fun _ _ _ => rfl, fun _ h => nomatch h⟩
  have ob := hpre
  have a0lt : a0 < s.heap.size := by obtain ⟨c9, h9, -⟩ := ob; exact (Array.getElem?_eq_some_iff.mp h9).1
  refine lv_aload_n hx hb dX8_init_0 rfl (lv_at hl 0 rfl) ?_
  refine n_obj C ko_X8_3 hl.1 dX8_init_1 ⟨Nat.le_of_ble_eq_true rfl, Nat.le_of_ble_eq_true rfl⟩ ?_
  refine lv_aload_n hx hb dX8_init_4 rfl (lv_at hl 0 rfl) ?_
  refine lv_bipush (v := 84) hx hb dX8_init_5 (by decide) ?_
  refine n_ai (N := 84) (b := s.heap.size) C N0 rfl kAI (by decide) (by decide) (by decide) ⟨Nat.le_of_ble_eq_true rfl, Nat.le_of_ble_eq_true rfl⟩ dX8_init_7 (fun H1 N1 o1 e1 => ?_)
  have ob := ob.kept (e1 a0 (by omega))
  refine n_put (T := TX8) C N1 ob 1 kF_X8_11 dX8_init_9 rfl (by decide) rfl rfl rfl rfl rfl (fun H2 L2 N2 o2 e2 => ?_)
  have o1 := (e2 s.heap.size (by omega)).trans o1
  refine lv_aload_n hx hb dX8_init_12 rfl (lv_at hl 0 rfl) ?_
  refine lv_iconst (v := 0) hx hb dX8_init_13 (by decide) ?_
  refine n_put (T := TX8) C N2 o2 2 kF_X8_15 dX8_init_14 rfl (by decide) rfl rfl rfl rfl rfl (fun H3 L3 N3 o3 e3 => ?_)
  have o1 := (e3 s.heap.size (by omega)).trans o1
  refine lv_aload_n hx hb dX8_init_17 rfl (lv_at hl 0 rfl) ?_
  refine lv_iconst (v := 0) hx hb dX8_init_18 (by decide) ?_
  refine n_put (T := TX8) C N3 o3 3 kF_X8_19 dX8_init_19 rfl (by decide) rfl rfl rfl rfl rfl (fun H4 L4 N4 o4 e4 => ?_)
  have o1 := (e4 s.heap.size (by omega)).trans o1
  refine lv_aload_n hx hb dX8_init_22 rfl (lv_at hl 0 rfl) ?_
  refine lv_iconst (v := 0) hx hb dX8_init_23 (by decide) ?_
  refine n_put (T := TX8) C N4 o4 4 kF_X8_22 dX8_init_24 rfl (by decide) rfl rfl rfl rfl rfl (fun H5 L5 N5 o5 e5 => ?_)
  have o1 := (e5 s.heap.size (by omega)).trans o1
  refine lv_aload_n hx hb dX8_init_27 rfl (lv_at hl 0 rfl) ?_
  refine lv_aload_n hx hb dX8_init_28 rfl (lv_at hl 1 rfl) ?_
  refine n_put (T := TX8) C N5 o5 0 kF_X8_25 dX8_init_29 rfl (by decide) rfl rfl rfl rfl rfl (fun H6 L6 N6 o6 e6 => ?_)
  have o1 := (e6 s.heap.size (by omega)).trans o1
  exact n_ret hQ C N6 hr dX8_init_32 (by decide) (by decide) (⟨o6.to (fun k hk => match k, hk with | 0, _ => rfl | 1, _ => rfl | 2, _ => rfl | 3, _ => rfl | 4, _ => rfl | k + 5, hk => absurd hk (by omega)), o1⟩)

set_option maxRecDepth 100000 in
set_option maxHeartbeats 4000000 in
theorem c_X10_init_X6 (l : Launch) (D : DD) (a0 : Nat) (a1 : Nat) (x2 : Int32)   : CS l Ao D yX10_init cX10_init 3 0 0 0 [.ref a0, .ref a1, .int x2] a0 (fun H => t_OB a0 (D.1.1 6) 3 (D.1.2 6) H (fun k => dflt (TX6 k).2.2.1)) (fun H0 H1 => t_OB a0 (D.1.1 6) 3 (D.1.2 6) H1 (updV (updV (fun k => dflt (TX6 k).2.2.1) 0 (.ref a1)) 1 (.int x2))) := by
  refine enterS (by decide) (Nat.le_of_ble_eq_true rfl) rfl ?_
  intro p e s m args below meth c ls Q hA hQ C hr hpre hl
  have hx := C.1
  have hb := C.2.1
  have hl : lv_has ls 3 [(0, .ref a0), (1, .ref a1), (2, .int x2)] := hl
  have N0 : Nf s.heap s.heap [] a0 0 := ⟨rfl, fun _ _ _ => rfl, fun _ h => nomatch h⟩
  have ob := hpre
  have a0lt : a0 < s.heap.size := by obtain ⟨c9, h9, -⟩ := ob; exact (Array.getElem?_eq_some_iff.mp h9).1
  refine lv_aload_n hx hb dX10_init_0 rfl (lv_at hl 0 rfl) ?_
  refine n_obj C ko_X10_1 hl.1 dX10_init_1 ⟨Nat.le_of_ble_eq_true rfl, Nat.le_of_ble_eq_true rfl⟩ ?_
  refine lv_aload_n hx hb dX10_init_4 rfl (lv_at hl 0 rfl) ?_
  refine lv_aload_n hx hb dX10_init_5 rfl (lv_at hl 1 rfl) ?_
  refine n_put (T := TX6) C N0 ob 0 kF_X10_7 dX10_init_6 rfl (by decide) rfl rfl rfl rfl rfl (fun H1 L1 N1 o1 e1 => ?_)
  refine lv_aload_n hx hb dX10_init_9 rfl (lv_at hl 0 rfl) ?_
  refine lv_iload_n hx hb dX10_init_10 rfl (lv_at hl 2 rfl) ?_
  refine n_put (T := TX6) C N1 o1 1 kF_X10_13 dX10_init_11 rfl (by decide) rfl rfl rfl rfl rfl (fun H2 L2 N2 o2 e2 => ?_)
  exact n_ret hQ C N2 hr dX10_init_14 (by decide) (by decide) (o2)

set_option maxRecDepth 100000 in
set_option maxHeartbeats 4000000 in
theorem c_X10_init_X4 (l : Launch) (D : DD) (a0 : Nat) (a1 : Nat) (x2 : Int32)   : CS l Ao D yX10_init cX10_init 3 0 0 0 [.ref a0, .ref a1, .int x2] a0 (fun H => t_OB a0 (D.1.1 4) 5 (D.1.2 4) H (fun k => dflt (TX4 k).2.2.1)) (fun H0 H1 => t_OB a0 (D.1.1 4) 5 (D.1.2 4) H1 (updV (updV (fun k => dflt (TX4 k).2.2.1) 0 (.ref a1)) 1 (.int x2))) := by
  refine enterS (by decide) (Nat.le_of_ble_eq_true rfl) rfl ?_
  intro p e s m args below meth c ls Q hA hQ C hr hpre hl
  have hx := C.1
  have hb := C.2.1
  have hl : lv_has ls 3 [(0, .ref a0), (1, .ref a1), (2, .int x2)] := hl
  have N0 : Nf s.heap s.heap [] a0 0 := ⟨rfl, fun _ _ _ => rfl, fun _ h => nomatch h⟩
  have ob := hpre
  have a0lt : a0 < s.heap.size := by obtain ⟨c9, h9, -⟩ := ob; exact (Array.getElem?_eq_some_iff.mp h9).1
  refine lv_aload_n hx hb dX10_init_0 rfl (lv_at hl 0 rfl) ?_
  refine n_obj C ko_X10_1 hl.1 dX10_init_1 ⟨Nat.le_of_ble_eq_true rfl, Nat.le_of_ble_eq_true rfl⟩ ?_
  refine lv_aload_n hx hb dX10_init_4 rfl (lv_at hl 0 rfl) ?_
  refine lv_aload_n hx hb dX10_init_5 rfl (lv_at hl 1 rfl) ?_
  refine n_put (T := TX4) C N0 ob 0 kF_X10_7 dX10_init_6 rfl (by decide) rfl rfl rfl rfl rfl (fun H1 L1 N1 o1 e1 => ?_)
  refine lv_aload_n hx hb dX10_init_9 rfl (lv_at hl 0 rfl) ?_
  refine lv_iload_n hx hb dX10_init_10 rfl (lv_at hl 2 rfl) ?_
  refine n_put (T := TX4) C N1 o1 1 kF_X10_13 dX10_init_11 rfl (by decide) rfl rfl rfl rfl rfl (fun H2 L2 N2 o2 e2 => ?_)
  exact n_ret hQ C N2 hr dX10_init_14 (by decide) (by decide) (o2)

set_option maxRecDepth 100000 in
set_option maxHeartbeats 4000000 in
theorem c_X6_init (l : Launch) (D : DD) (a0 : Nat) (a1 : Nat) (a2 : Nat)   : CS l Ao D yX6_init cX6_init 3 1 0 0 [.ref a0, .ref a1, .ref a2] a0 (fun H => t_OB a0 (D.1.1 6) 3 (D.1.2 6) H (fun k => dflt (TX6 k).2.2.1)) (fun H0 H1 => RSh D H1 a0 a1 a2) := by
  refine enterS (by decide) (Nat.le_of_ble_eq_true rfl) rfl ?_
  intro p e s m args below meth c ls Q hA hQ C hr hpre hl
  have hx := C.1
  have hb := C.2.1
  have hl : lv_has ls 3 [(0, .ref a0), (1, .ref a1), (2, .ref a2)] := hl
  have N0 : Nf s.heap s.heap [] a0 0 := ⟨rfl, fun _ _ _ => rfl, fun _ h => nomatch h⟩
  have ob := hpre
  have a0lt : a0 < s.heap.size := by obtain ⟨c9, h9, -⟩ := ob; exact (Array.getElem?_eq_some_iff.mp h9).1
  refine lv_aload_n hx hb dX6_init_0 rfl (lv_at hl 0 rfl) ?_
  refine lv_aload_n hx hb dX6_init_1 rfl (lv_at hl 1 rfl) ?_
  refine lv_bipush (v := 14) hx hb dX6_init_2 (by decide) ?_
  refine n_call (As := [.ref a1, .int (14 : Int32)]) C N0 (c_X10_init_X6 l D a0 a1 (14 : Int32)) kJ_X6_5 (Or.inl rfl) ob dX6_init_4 hl.1 rfl cd_X10_init ⟨Nat.le_of_ble_eq_true rfl, Nat.le_of_ble_eq_true rfl, Nat.le_of_ble_eq_true rfl, Nat.le_of_ble_eq_true rfl, Nat.le_of_ble_eq_true rfl⟩ (fun H1 L1 N1 e1 q1 => ?_)
  have ob := q1
  refine lv_aload_n hx hb dX6_init_7 rfl (lv_at hl 0 rfl) ?_
  refine lv_aload_n hx hb dX6_init_8 rfl (lv_at hl 2 rfl) ?_
  refine n_put (T := TX6) C N1 ob 2 kF_X6_11 dX6_init_9 rfl (by decide) rfl rfl rfl rfl rfl (fun H2 L2 N2 o2 e2 => ?_)
  exact n_ret hQ C N2 hr dX6_init_12 (by decide) (by decide) (o2.to (fun k hk => match k, hk with | 0, _ => rfl | 1, _ => rfl | 2, _ => rfl | k + 3, hk => absurd hk (by omega)))

set_option maxRecDepth 100000 in
set_option maxHeartbeats 4000000 in
theorem c_X4_init (l : Launch) (D : DD) (a0 : Nat) (a1 : Nat)   : CS l Ao D yX4_init cX4_init 2 1 1 400 [.ref a0, .ref a1] a0 (fun H => t_OB a0 (D.1.1 4) 5 (D.1.2 4) H (fun k => dflt (TX4 k).2.2.1)) (fun H0 H1 => LSh D H1 a0 H0.size a1) := by
  refine enterS (by decide) (Nat.le_of_ble_eq_true rfl) rfl ?_
  intro p e s m args below meth c ls Q hA hQ C hr hpre hl
  have hx := C.1
  have hb := C.2.1
  have hl : lv_has ls 2 [(0, .ref a0), (1, .ref a1)] := hl
  have N0 : Nf s.heap s.heap [] a0 0 := ⟨rfl, fun _ _ _ => rfl, fun _ h => nomatch h⟩
  have ob := hpre
  have a0lt : a0 < s.heap.size := by obtain ⟨c9, h9, -⟩ := ob; exact (Array.getElem?_eq_some_iff.mp h9).1
  refine lv_aload_n hx hb dX4_init_0 rfl (lv_at hl 0 rfl) ?_
  refine lv_aload_n hx hb dX4_init_1 rfl (lv_at hl 1 rfl) ?_
  refine lv_bipush (v := 12) hx hb dX4_init_2 (by decide) ?_
  refine n_call (As := [.ref a1, .int (12 : Int32)]) C N0 (c_X10_init_X4 l D a0 a1 (12 : Int32)) kJ_X4_5 (Or.inl rfl) ob dX4_init_4 hl.1 rfl cd_X10_init ⟨Nat.le_of_ble_eq_true rfl, Nat.le_of_ble_eq_true rfl, Nat.le_of_ble_eq_true rfl, Nat.le_of_ble_eq_true rfl, Nat.le_of_ble_eq_true rfl⟩ (fun H1 L1 N1 e1 q1 => ?_)
  have ob := q1
  refine lv_aload_n hx hb dX4_init_7 rfl (lv_at hl 0 rfl) ?_
  refine lv_sipush (v := 400) hx hb dX4_init_8 (by decide) ?_
  refine n_ai (N := 400) (b := s.heap.size) C N1 rfl kAI (by decide) (by decide) (by decide) ⟨Nat.le_of_ble_eq_true rfl, Nat.le_of_ble_eq_true rfl⟩ dX4_init_11 (fun H2 N2 o2 e2 => ?_)
  have ob := ob.kept (e2 a0 (by omega))
  refine n_put (T := TX4) C N2 ob 2 kF_X4_13 dX4_init_13 rfl (by decide) rfl rfl rfl rfl rfl (fun H3 L3 N3 o3 e3 => ?_)
  have o2 := (e3 s.heap.size (by omega)).trans o2
  refine lv_aload_n hx hb dX4_init_16 rfl (lv_at hl 0 rfl) ?_
  refine lv_iconst (v := 0) hx hb dX4_init_17 (by decide) ?_
  refine n_put (T := TX4) C N3 o3 3 kF_X4_17 dX4_init_18 rfl (by decide) rfl rfl rfl rfl rfl (fun H4 L4 N4 o4 e4 => ?_)
  have o2 := (e4 s.heap.size (by omega)).trans o2
  refine lv_aload_n hx hb dX4_init_21 rfl (lv_at hl 0 rfl) ?_
  refine lv_iconst (v := 0) hx hb dX4_init_22 (by decide) ?_
  refine n_put (T := TX4) C N4 o4 4 kF_X4_21 dX4_init_23 rfl (by decide) rfl rfl rfl rfl rfl (fun H5 L5 N5 o5 e5 => ?_)
  have o2 := (e5 s.heap.size (by omega)).trans o2
  exact n_ret hQ C N5 hr dX4_init_26 (by decide) (by decide) (⟨o5.to (fun k hk => match k, hk with | 0, _ => rfl | 1, _ => rfl | 2, _ => rfl | 3, _ => rfl | 4, _ => rfl | k + 5, hk => absurd hk (by omega)), o2⟩)

set_option maxRecDepth 100000 in
set_option maxHeartbeats 4000000 in
theorem c_X3_init (l : Launch) (D : DD) (a0 : Nat) (a1 : Nat) (x2 : Int32)   : CS l (fun _ => True) D yX3_init cX3_init 3 0 2 45 [.ref a0, .ref a1, .int x2] a0 (fun H => t_OB a0 (D.1.1 3) 4 (D.1.2 3) H (fun k => dflt (TX3 k).2.2.1)) (fun H0 H1 => WSh D H1 a0 H0.size a1 x2) := by
  refine enterS (by decide) (Nat.le_of_ble_eq_true rfl) rfl ?_
  intro p e s m args below meth c ls Q hA hQ C hr hpre hl
  have hx := C.1
  have hb := C.2.1
  have hl : lv_has ls 3 [(0, .ref a0), (1, .ref a1), (2, .int x2)] := hl
  have N0 : Nf s.heap s.heap [] a0 0 := ⟨rfl, fun _ _ _ => rfl, fun _ h => nomatch h⟩
  have ob := hpre
  have a0lt : a0 < s.heap.size := by obtain ⟨c9, h9, -⟩ := ob; exact (Array.getElem?_eq_some_iff.mp h9).1
  refine lv_aload_n hx hb dX3_init_0 rfl (lv_at hl 0 rfl) ?_
  refine n_obj C ko_X3_3 hl.1 dX3_init_1 ⟨Nat.le_of_ble_eq_true rfl, Nat.le_of_ble_eq_true rfl⟩ ?_
  refine lv_aload_n hx hb dX3_init_4 rfl (lv_at hl 0 rfl) ?_
  refine lv_bipush (v := 32) hx hb dX3_init_5 (by decide) ?_
  refine n_ai (N := 32) (b := s.heap.size) C N0 rfl kAI (by decide) (by decide) (by decide) ⟨Nat.le_of_ble_eq_true rfl, Nat.le_of_ble_eq_true rfl⟩ dX3_init_7 (fun H1 N1 o1 e1 => ?_)
  have ob := ob.kept (e1 a0 (by omega))
  refine n_put (T := TX3) C N1 ob 2 kF_X3_11 dX3_init_9 rfl (by decide) rfl rfl rfl rfl rfl (fun H2 L2 N2 o2 e2 => ?_)
  have o1 := (e2 s.heap.size (by omega)).trans o1
  refine lv_aload_n hx hb dX3_init_12 rfl (lv_at hl 0 rfl) ?_
  refine lv_bipush (v := 13) hx hb dX3_init_13 (by decide) ?_
  refine n_ai (N := 13) (b := (s.heap.size + 1)) C N2 rfl kAI (by decide) (by decide) (by decide) ⟨Nat.le_of_ble_eq_true rfl, Nat.le_of_ble_eq_true rfl⟩ dX3_init_15 (fun H3 N3 o3 e3 => ?_)
  have o2 := o2.kept (e3 a0 (by omega))
  have o1 := (e3 s.heap.size (by omega)).trans o1
  refine n_put (T := TX3) C N3 o2 3 kF_X3_15 dX3_init_17 rfl (by decide) rfl rfl rfl rfl rfl (fun H4 L4 N4 o4 e4 => ?_)
  have o1 := (e4 s.heap.size (by omega)).trans o1
  have o3 := (e4 (s.heap.size + 1) (by omega)).trans o3
  refine lv_aload_n hx hb dX3_init_20 rfl (lv_at hl 0 rfl) ?_
  refine lv_aload_n hx hb dX3_init_21 rfl (lv_at hl 1 rfl) ?_
  refine n_put (T := TX3) C N4 o4 1 kF_X3_18 dX3_init_22 rfl (by decide) rfl rfl rfl rfl rfl (fun H5 L5 N5 o5 e5 => ?_)
  have o1 := (e5 s.heap.size (by omega)).trans o1
  have o3 := (e5 (s.heap.size + 1) (by omega)).trans o3
  refine lv_aload_n hx hb dX3_init_25 rfl (lv_at hl 0 rfl) ?_
  refine lv_iload_n hx hb dX3_init_26 rfl (lv_at hl 2 rfl) ?_
  refine n_put (T := TX3) C N5 o5 0 kF_X3_21 dX3_init_27 rfl (by decide) rfl rfl rfl rfl rfl (fun H6 L6 N6 o6 e6 => ?_)
  have o1 := (e6 s.heap.size (by omega)).trans o1
  have o3 := (e6 (s.heap.size + 1) (by omega)).trans o3
  exact n_ret hQ C N6 hr dX3_init_30 (by decide) (by decide) (⟨o6.to (fun k hk => match k, hk with | 0, _ => rfl | 1, _ => rfl | 2, _ => rfl | 3, _ => rfl | k + 4, hk => absurd hk (by omega)), o1, o3⟩)

theorem modF_eq (j : Nat) : upd (upd (upd (upd (upd (fun _ => (0 : Int32)) 5 2) 6 5) 7 50) 8 1) 11 1 j = modF j := by
  unfold upd modF
  by_cases h1 : j = 11
  · subst h1; rfl
  by_cases h2 : j = 8
  · subst h2; rfl
  by_cases h3 : j = 7
  · subst h3; rfl
  by_cases h4 : j = 6
  · subst h4; rfl
  by_cases h5 : j = 5
  · subst h5; rfl
  simp [h1, h2, h3, h4, h5]

theorem arr_fun {cA : ClassId} {N : Nat} {f g : Nat → Int32} (h : ∀ j, f j = g j) : arrCell cA N f = arrCell cA N g := by rw [show f = g from funext h]

set_option maxRecDepth 100000 in
set_option maxHeartbeats 4000000 in
theorem c_X12_init (l : Launch) (D : DD) (a0 : Nat)   : CS l Ao D yX12_init cX12_init 1 0 8 9865 [.ref a0] a0 (fun H => t_OB a0 (D.1.1 11) 18 (D.1.2 11) H (fun k => dflt (TX12 k).2.2.1)) (fun H0 H1 => MSh D H1 a0 H0.size) := by
  refine enterS (by decide) (Nat.le_of_ble_eq_true rfl) rfl ?_
  intro p e s m args below meth c ls Q hA hQ C hr hpre hl
  have hx := C.1
  have hb := C.2.1
  have hl : lv_has ls 1 [(0, .ref a0)] := hl
  have N0 : Nf s.heap s.heap [] a0 0 := ⟨rfl, fun _ _ _ => rfl, fun _ h => nomatch h⟩
  have ob := hpre
  have a0lt : a0 < s.heap.size := by obtain ⟨c9, h9, -⟩ := ob; exact (Array.getElem?_eq_some_iff.mp h9).1
  refine lv_aload_n hx hb dX12_init_0 rfl (lv_at hl 0 rfl) ?_
  refine n_obj C ko_X12_7 hl.1 dX12_init_1 ⟨Nat.le_of_ble_eq_true rfl, Nat.le_of_ble_eq_true rfl⟩ ?_
  refine lv_aload_n hx hb dX12_init_4 rfl (lv_at hl 0 rfl) ?_
  refine lv_sipush (v := 2052) hx hb dX12_init_5 (by decide) ?_
  refine n_ai (N := 2052) (b := s.heap.size) C N0 rfl kAI (by decide) (by decide) (by decide) ⟨Nat.le_of_ble_eq_true rfl, Nat.le_of_ble_eq_true rfl⟩ dX12_init_8 (fun H1 N1 o1 e1 => ?_)
  have ob := ob.kept (e1 a0 (by omega))
  refine n_put (T := TX12) C N1 ob 1 kF_X12_13 dX12_init_10 rfl (by decide) rfl rfl rfl rfl rfl (fun H2 L2 N2 o2 e2 => ?_)
  have o1 := (e2 s.heap.size (by omega)).trans o1
  refine lv_aload_n hx hb dX12_init_13 rfl (lv_at hl 0 rfl) ?_
  refine lv_sipush (v := 1203) hx hb dX12_init_14 (by decide) ?_
  refine n_ai (N := 1203) (b := (s.heap.size + 1)) C N2 rfl kAI (by decide) (by decide) (by decide) ⟨Nat.le_of_ble_eq_true rfl, Nat.le_of_ble_eq_true rfl⟩ dX12_init_17 (fun H3 N3 o3 e3 => ?_)
  have o2 := o2.kept (e3 a0 (by omega))
  have o1 := (e3 s.heap.size (by omega)).trans o1
  refine n_put (T := TX12) C N3 o2 2 kF_X12_17 dX12_init_19 rfl (by decide) rfl rfl rfl rfl rfl (fun H4 L4 N4 o4 e4 => ?_)
  have o1 := (e4 s.heap.size (by omega)).trans o1
  have o3 := (e4 (s.heap.size + 1) (by omega)).trans o3
  refine lv_aload_n hx hb dX12_init_22 rfl (lv_at hl 0 rfl) ?_
  refine lv_sipush (v := 1203) hx hb dX12_init_23 (by decide) ?_
  refine n_ai (N := 1203) (b := (s.heap.size + 2)) C N4 rfl kAI (by decide) (by decide) (by decide) ⟨Nat.le_of_ble_eq_true rfl, Nat.le_of_ble_eq_true rfl⟩ dX12_init_26 (fun H5 N5 o5 e5 => ?_)
  have o4 := o4.kept (e5 a0 (by omega))
  have o1 := (e5 s.heap.size (by omega)).trans o1
  have o3 := (e5 (s.heap.size + 1) (by omega)).trans o3
  refine n_put (T := TX12) C N5 o4 3 kF_X12_20 dX12_init_28 rfl (by decide) rfl rfl rfl rfl rfl (fun H6 L6 N6 o6 e6 => ?_)
  have o1 := (e6 s.heap.size (by omega)).trans o1
  have o3 := (e6 (s.heap.size + 1) (by omega)).trans o3
  have o5 := (e6 (s.heap.size + 2) (by omega)).trans o5
  refine lv_aload_n hx hb dX12_init_31 rfl (lv_at hl 0 rfl) ?_
  refine lv_sipush (v := 354) hx hb dX12_init_32 (by decide) ?_
  refine n_ai (N := 354) (b := (s.heap.size + 3)) C N6 rfl kAI (by decide) (by decide) (by decide) ⟨Nat.le_of_ble_eq_true rfl, Nat.le_of_ble_eq_true rfl⟩ dX12_init_35 (fun H7 N7 o7 e7 => ?_)
  have o6 := o6.kept (e7 a0 (by omega))
  have o1 := (e7 s.heap.size (by omega)).trans o1
  have o3 := (e7 (s.heap.size + 1) (by omega)).trans o3
  have o5 := (e7 (s.heap.size + 2) (by omega)).trans o5
  refine n_put (T := TX12) C N7 o6 4 kF_X12_23 dX12_init_37 rfl (by decide) rfl rfl rfl rfl rfl (fun H8 L8 N8 o8 e8 => ?_)
  have o1 := (e8 s.heap.size (by omega)).trans o1
  have o3 := (e8 (s.heap.size + 1) (by omega)).trans o3
  have o5 := (e8 (s.heap.size + 2) (by omega)).trans o5
  have o7 := (e8 (s.heap.size + 3) (by omega)).trans o7
  refine lv_aload_n hx hb dX12_init_40 rfl (lv_at hl 0 rfl) ?_
  refine lv_sipush (v := 4248) hx hb dX12_init_41 (by decide) ?_
  refine n_ai (N := 4248) (b := (s.heap.size + 4)) C N8 rfl kAI (by decide) (by decide) (by decide) ⟨Nat.le_of_ble_eq_true rfl, Nat.le_of_ble_eq_true rfl⟩ dX12_init_44 (fun H9 N9 o9 e9 => ?_)
  have o8 := o8.kept (e9 a0 (by omega))
  have o1 := (e9 s.heap.size (by omega)).trans o1
  have o3 := (e9 (s.heap.size + 1) (by omega)).trans o3
  have o5 := (e9 (s.heap.size + 2) (by omega)).trans o5
  have o7 := (e9 (s.heap.size + 3) (by omega)).trans o7
  refine n_put (T := TX12) C N9 o8 5 kF_X12_26 dX12_init_46 rfl (by decide) rfl rfl rfl rfl rfl (fun H10 L10 N10 o10 e10 => ?_)
  have o1 := (e10 s.heap.size (by omega)).trans o1
  have o3 := (e10 (s.heap.size + 1) (by omega)).trans o3
  have o5 := (e10 (s.heap.size + 2) (by omega)).trans o5
  have o7 := (e10 (s.heap.size + 3) (by omega)).trans o7
  have o9 := (e10 (s.heap.size + 4) (by omega)).trans o9
  refine lv_aload_n hx hb dX12_init_49 rfl (lv_at hl 0 rfl) ?_
  refine lv_sipush (v := 400) hx hb dX12_init_50 (by decide) ?_
  refine n_ab (N := 400) (b := (s.heap.size + 5)) C N10 rfl kAB (by decide) (by decide) (by decide) ⟨Nat.le_of_ble_eq_true rfl, Nat.le_of_ble_eq_true rfl⟩ dX12_init_53 (fun H11 N11 o11 e11 => ?_)
  have o10 := o10.kept (e11 a0 (by omega))
  have o1 := (e11 s.heap.size (by omega)).trans o1
  have o3 := (e11 (s.heap.size + 1) (by omega)).trans o3
  have o5 := (e11 (s.heap.size + 2) (by omega)).trans o5
  have o7 := (e11 (s.heap.size + 3) (by omega)).trans o7
  have o9 := (e11 (s.heap.size + 4) (by omega)).trans o9
  refine n_put (T := TX12) C N11 o10 8 kF_X12_29 dX12_init_55 rfl (by decide) rfl rfl rfl rfl rfl (fun H12 L12 N12 o12 e12 => ?_)
  have o1 := (e12 s.heap.size (by omega)).trans o1
  have o3 := (e12 (s.heap.size + 1) (by omega)).trans o3
  have o5 := (e12 (s.heap.size + 2) (by omega)).trans o5
  have o7 := (e12 (s.heap.size + 3) (by omega)).trans o7
  have o9 := (e12 (s.heap.size + 4) (by omega)).trans o9
  have o11 := (e12 (s.heap.size + 5) (by omega)).trans o11
  refine lv_aload_n hx hb dX12_init_58 rfl (lv_at hl 0 rfl) ?_
  refine lv_iconst (v := -1) hx hb dX12_init_59 (by decide) ?_
  refine n_put (T := TX12) C N12 o12 14 kF_X12_33 dX12_init_60 rfl (by decide) rfl rfl rfl rfl rfl (fun H13 L13 N13 o13 e13 => ?_)
  have o1 := (e13 s.heap.size (by omega)).trans o1
  have o3 := (e13 (s.heap.size + 1) (by omega)).trans o3
  have o5 := (e13 (s.heap.size + 2) (by omega)).trans o5
  have o7 := (e13 (s.heap.size + 3) (by omega)).trans o7
  have o9 := (e13 (s.heap.size + 4) (by omega)).trans o9
  have o11 := (e13 (s.heap.size + 5) (by omega)).trans o11
  refine lv_aload_n hx hb dX12_init_63 rfl (lv_at hl 0 rfl) ?_
  refine lv_iconst (v := 5) hx hb dX12_init_64 (by decide) ?_
  refine n_ai (N := 5) (b := (s.heap.size + 6)) C N13 rfl kAI (by decide) (by decide) (by decide) ⟨Nat.le_of_ble_eq_true rfl, Nat.le_of_ble_eq_true rfl⟩ dX12_init_65 (fun H14 N14 o14 e14 => ?_)
  have o13 := o13.kept (e14 a0 (by omega))
  have o1 := (e14 s.heap.size (by omega)).trans o1
  have o3 := (e14 (s.heap.size + 1) (by omega)).trans o3
  have o5 := (e14 (s.heap.size + 2) (by omega)).trans o5
  have o7 := (e14 (s.heap.size + 3) (by omega)).trans o7
  have o9 := (e14 (s.heap.size + 4) (by omega)).trans o9
  have o11 := (e14 (s.heap.size + 5) (by omega)).trans o11
  refine n_put (T := TX12) C N14 o13 15 kF_X12_36 dX12_init_67 rfl (by decide) rfl rfl rfl rfl rfl (fun H15 L15 N15 o15 e15 => ?_)
  have o1 := (e15 s.heap.size (by omega)).trans o1
  have o3 := (e15 (s.heap.size + 1) (by omega)).trans o3
  have o5 := (e15 (s.heap.size + 2) (by omega)).trans o5
  have o7 := (e15 (s.heap.size + 3) (by omega)).trans o7
  have o9 := (e15 (s.heap.size + 4) (by omega)).trans o9
  have o11 := (e15 (s.heap.size + 5) (by omega)).trans o11
  have o14 := (e15 (s.heap.size + 6) (by omega)).trans o14
  refine lv_aload_n hx hb dX12_init_70 rfl (lv_at hl 0 rfl) ?_
  refine lv_sipush (v := 400) hx hb dX12_init_71 (by decide) ?_
  refine n_ai (N := 400) (b := (s.heap.size + 7)) C N15 rfl kAI (by decide) (by decide) (by decide) ⟨Nat.le_of_ble_eq_true rfl, Nat.le_of_ble_eq_true rfl⟩ dX12_init_74 (fun H16 N16 o16 e16 => ?_)
  have o15 := o15.kept (e16 a0 (by omega))
  have o1 := (e16 s.heap.size (by omega)).trans o1
  have o3 := (e16 (s.heap.size + 1) (by omega)).trans o3
  have o5 := (e16 (s.heap.size + 2) (by omega)).trans o5
  have o7 := (e16 (s.heap.size + 3) (by omega)).trans o7
  have o9 := (e16 (s.heap.size + 4) (by omega)).trans o9
  have o11 := (e16 (s.heap.size + 5) (by omega)).trans o11
  have o14 := (e16 (s.heap.size + 6) (by omega)).trans o14
  refine n_put (T := TX12) C N16 o15 17 kF_X12_39 dX12_init_76 rfl (by decide) rfl rfl rfl rfl rfl (fun H17 L17 N17 o17 e17 => ?_)
  have o1 := (e17 s.heap.size (by omega)).trans o1
  have o3 := (e17 (s.heap.size + 1) (by omega)).trans o3
  have o5 := (e17 (s.heap.size + 2) (by omega)).trans o5
  have o7 := (e17 (s.heap.size + 3) (by omega)).trans o7
  have o9 := (e17 (s.heap.size + 4) (by omega)).trans o9
  have o11 := (e17 (s.heap.size + 5) (by omega)).trans o11
  have o14 := (e17 (s.heap.size + 6) (by omega)).trans o14
  have o16 := (e17 (s.heap.size + 7) (by omega)).trans o16
  refine lv_aload_n hx hb dX12_init_79 rfl (lv_at hl 0 rfl) ?_
  refine n_get (T := TX12) (v := .ref s.heap.size) C o17 1 kF_X12_13 dX12_init_80 rfl (by decide) rfl rfl ?_
  refine lv_iconst (v := 5) hx hb dX12_init_83 (by decide) ?_
  refine lv_iconst (v := 2) hx hb dX12_init_84 (by decide) ?_
  refine n_is C N17 o1 (by omega) (by decide) (by decide) dX12_init_85 (fun H18 L18 N18 o18 e18 => ?_)
  have o17 := o17.kept (e18 a0 (by omega))
  have o3 := (e18 (s.heap.size + 1) (by omega)).trans o3
  have o5 := (e18 (s.heap.size + 2) (by omega)).trans o5
  have o7 := (e18 (s.heap.size + 3) (by omega)).trans o7
  have o9 := (e18 (s.heap.size + 4) (by omega)).trans o9
  have o11 := (e18 (s.heap.size + 5) (by omega)).trans o11
  have o14 := (e18 (s.heap.size + 6) (by omega)).trans o14
  have o16 := (e18 (s.heap.size + 7) (by omega)).trans o16
  refine lv_aload_n hx hb dX12_init_86 rfl (lv_at hl 0 rfl) ?_
  refine n_get (T := TX12) (v := .ref s.heap.size) C o17 1 kF_X12_13 dX12_init_87 rfl (by decide) rfl rfl ?_
  refine lv_bipush (v := 6) hx hb dX12_init_90 (by decide) ?_
  refine lv_iconst (v := 5) hx hb dX12_init_92 (by decide) ?_
  refine n_is C N18 o18 (by omega) (by decide) (by decide) dX12_init_93 (fun H19 L19 N19 o19 e19 => ?_)
  have o17 := o17.kept (e19 a0 (by omega))
  have o3 := (e19 (s.heap.size + 1) (by omega)).trans o3
  have o5 := (e19 (s.heap.size + 2) (by omega)).trans o5
  have o7 := (e19 (s.heap.size + 3) (by omega)).trans o7
  have o9 := (e19 (s.heap.size + 4) (by omega)).trans o9
  have o11 := (e19 (s.heap.size + 5) (by omega)).trans o11
  have o14 := (e19 (s.heap.size + 6) (by omega)).trans o14
  have o16 := (e19 (s.heap.size + 7) (by omega)).trans o16
  refine lv_aload_n hx hb dX12_init_94 rfl (lv_at hl 0 rfl) ?_
  refine n_get (T := TX12) (v := .ref s.heap.size) C o17 1 kF_X12_13 dX12_init_95 rfl (by decide) rfl rfl ?_
  refine lv_bipush (v := 7) hx hb dX12_init_98 (by decide) ?_
  refine lv_bipush (v := 50) hx hb dX12_init_100 (by decide) ?_
  refine n_is C N19 o19 (by omega) (by decide) (by decide) dX12_init_102 (fun H20 L20 N20 o20 e20 => ?_)
  have o17 := o17.kept (e20 a0 (by omega))
  have o3 := (e20 (s.heap.size + 1) (by omega)).trans o3
  have o5 := (e20 (s.heap.size + 2) (by omega)).trans o5
  have o7 := (e20 (s.heap.size + 3) (by omega)).trans o7
  have o9 := (e20 (s.heap.size + 4) (by omega)).trans o9
  have o11 := (e20 (s.heap.size + 5) (by omega)).trans o11
  have o14 := (e20 (s.heap.size + 6) (by omega)).trans o14
  have o16 := (e20 (s.heap.size + 7) (by omega)).trans o16
  refine lv_aload_n hx hb dX12_init_103 rfl (lv_at hl 0 rfl) ?_
  refine n_get (T := TX12) (v := .ref s.heap.size) C o17 1 kF_X12_13 dX12_init_104 rfl (by decide) rfl rfl ?_
  refine lv_bipush (v := 8) hx hb dX12_init_107 (by decide) ?_
  refine lv_iconst (v := 1) hx hb dX12_init_109 (by decide) ?_
  refine n_is C N20 o20 (by omega) (by decide) (by decide) dX12_init_110 (fun H21 L21 N21 o21 e21 => ?_)
  have o17 := o17.kept (e21 a0 (by omega))
  have o3 := (e21 (s.heap.size + 1) (by omega)).trans o3
  have o5 := (e21 (s.heap.size + 2) (by omega)).trans o5
  have o7 := (e21 (s.heap.size + 3) (by omega)).trans o7
  have o9 := (e21 (s.heap.size + 4) (by omega)).trans o9
  have o11 := (e21 (s.heap.size + 5) (by omega)).trans o11
  have o14 := (e21 (s.heap.size + 6) (by omega)).trans o14
  have o16 := (e21 (s.heap.size + 7) (by omega)).trans o16
  refine lv_aload_n hx hb dX12_init_111 rfl (lv_at hl 0 rfl) ?_
  refine n_get (T := TX12) (v := .ref s.heap.size) C o17 1 kF_X12_13 dX12_init_112 rfl (by decide) rfl rfl ?_
  refine lv_bipush (v := 11) hx hb dX12_init_115 (by decide) ?_
  refine lv_iconst (v := 1) hx hb dX12_init_117 (by decide) ?_
  refine n_is C N21 o21 (by omega) (by decide) (by decide) dX12_init_118 (fun H22 L22 N22 o22 e22 => ?_)
  have o17 := o17.kept (e22 a0 (by omega))
  have o3 := (e22 (s.heap.size + 1) (by omega)).trans o3
  have o5 := (e22 (s.heap.size + 2) (by omega)).trans o5
  have o7 := (e22 (s.heap.size + 3) (by omega)).trans o7
  have o9 := (e22 (s.heap.size + 4) (by omega)).trans o9
  have o11 := (e22 (s.heap.size + 5) (by omega)).trans o11
  have o14 := (e22 (s.heap.size + 6) (by omega)).trans o14
  have o16 := (e22 (s.heap.size + 7) (by omega)).trans o16
  exact n_ret hQ C N22 hr dX12_init_119 (by decide) (by decide) (⟨o17.to (fun k hk => match k, hk with | 0, _ => rfl | 1, _ => rfl | 2, _ => rfl | 3, _ => rfl | 4, _ => rfl | 5, _ => rfl | 6, _ => rfl | 7, _ => rfl | 8, _ => rfl | 9, _ => rfl | 10, _ => rfl | 11, _ => rfl | 12, _ => rfl | 13, _ => rfl | 14, _ => rfl | 15, _ => rfl | 16, _ => rfl | 17, _ => rfl | k + 18, hk => absurd hk (by omega)), o22.trans (congrArg some (arr_fun (fun j => modF_eq j))), o3, o5, o7, o9, o11, o14, o16⟩)
