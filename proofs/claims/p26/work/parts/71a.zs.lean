/-! what the Statement gives of the start: the classes, the strings, the statics -/
abbrev nz0 : Nat → Prop := fun q => (fun _ : Nat => (0 : Nat)) q ≠ 0
theorem nz0_no {n : Nat} : ∀ a : Nat, a < n → ¬ nz0 a := fun _ _ h => h rfl
def zs_mk (own : String) (k n : Nat) (bs : List Int32) : List Cond := .exactly (.string own k) "java/lang/String" :: .eq (.field (.string own k) "java/lang/String" "coder" "B") (.int 0) :: .arrayOf (.field (.string own k) "java/lang/String" "value" "[B") .byte :: .eq (.length (.field (.string own k) "java/lang/String" "value" "[B")) (.int (Int32.ofNat n)) :: (List.range n).map (fun j => .eq (.elem (.field (.string own k) "java/lang/String" "value" "[B") (.int (Int32.ofNat j))) (.int (bs.getD j 0)))
def zs_tab : List ((String × Nat × String × Nat) × Nat × List Int32) := [((RX4, 69, "tax", 3), 145, [116, 97, 120]), ((RX4, 71, "free", 4), 152, [102, 114, 101, 101]), ((RX4, 73, "find", 4), 160, [102, 105, 110, 100]), ((RX4, 59, "if", 2), 168, [105, 102]), ((RX4, 82, "not", 3), 174, [110, 111, 116]), ((RX4, 97, "paper", 5), 181, [112, 97, 112, 101, 114]), ((RX4, 99, "fire", 4), 190, [102, 105, 114, 101]), ((RX4, 101, "oven", 4), 198, [111, 118, 101, 110]), ((RX4, 103, "forge", 5), 206, [102, 111, 114, 103, 101]), ((RX4, 105, "pot", 3), 215, [112, 111, 116]), ((RX4, 116, "house", 5), 222, [104, 111, 117, 115, 101]), ((RX4, 118, "flue", 4), 231, [102, 108, 117, 101]), ((RX4, 120, "warm", 4), 239, [119, 97, 114, 109]), ((RX4, 122, "hearths", 7), 247, [104, 101, 97, 114, 116, 104, 115]), ((RX4, 124, "windows", 7), 258, [119, 105, 110, 100, 111, 119, 115]), ((RX4, 126, "quarter", 7), 269, [113, 117, 97, 114, 116, 101, 114]), ((RX4, 78, "and", 3), 280, [97, 110, 100]), ((RX4, 80, "or", 2), 287, [111, 114]), ((RX6, 19, "house", 5), 293, [104, 111, 117, 115, 101]), ((RX6, 66, "windows", 7), 303, [119, 105, 110, 100, 111, 119, 115]), ((RX6, 76, "paper", 5), 315, [112, 97, 112, 101, 114]), ((RX6, 85, "tells", 5), 325, [116, 101, 108, 108, 115]), ((RX6, 31, "sees", 4), 334, [115, 101, 101, 115]), ((RX6, 36, "hearth", 6), 342, [104, 101, 97, 114, 116, 104]), ((RX6, 131, "fire", 4), 352, [102, 105, 114, 101]), ((RX6, 133, "oven", 4), 361, [111, 118, 101, 110]), ((RX6, 135, "forge", 5), 370, [102, 111, 114, 103, 101]), ((RX6, 137, "pot", 3), 380, [112, 111, 116]), ((RX6, 106, "of", 2), 388, [111, 102]), ((RX6, 116, "flue", 4), 394, [102, 108, 117, 101]), ((RX6, 120, "warm", 4), 403, [119, 97, 114, 109]), ((RX6, 124, "wall", 4), 412, [119, 97, 108, 108]), ((RX6, 154, "rate", 4), 420, [114, 97, 116, 101]), ((RX6, 158, "fine", 4), 428, [102, 105, 110, 101]), ((RX6, 162, "visit", 5), 436, [118, 105, 115, 105, 116]), ((RX6, 166, "bed", 3), 445, [98, 101, 100]), ((RX6, 170, "quarter", 7), 452, [113, 117, 97, 114, 116, 101, 114]), ((RX11, 90, "the text of the parish is wrong", 31), 464, [116, 104, 101, 32, 116, 101, 120, 116, 32, 111, 102, 32, 116, 104, 101, 32, 112, 97, 114, 105, 115, 104, 32, 105, 115, 32, 119, 114, 111, 110, 103]), ((RX11, 100, "there are 12 texts", 18), 499, [116, 104, 101, 114, 101, 32, 97, 114, 101, 32, 49, 50, 32, 116, 101, 120, 116, 115]), ((RX11, 110, "the text of the law is wrong", 28), 521, [116, 104, 101, 32, 116, 101, 120, 116, 32, 111, 102, 32, 116, 104, 101, 32, 108, 97, 119, 32, 105, 115, 32, 119, 114, 111, 110, 103]), ((RX11, 349, "there is no such house", 22), 553, [116, 104, 101, 114, 101, 32, 105, 115, 32, 110, 111, 32, 115, 117, 99, 104, 32, 104, 111, 117, 115, 101]), ((RX11, 170, "a house has no such thing", 25), 579, [97, 32, 104, 111, 117, 115, 101, 32, 104, 97, 115, 32, 110, 111, 32, 115, 117, 99, 104, 32, 116, 104, 105, 110, 103]), ((RX11, 351, "there is no such hearth", 23), 608, [116, 104, 101, 114, 101, 32, 105, 115, 32, 110, 111, 32, 115, 117, 99, 104, 32, 104, 101, 97, 114, 116, 104]), ((RX11, 206, "a hearth has no such thing", 26), 635, [97, 32, 104, 101, 97, 114, 116, 104, 32, 104, 97, 115, 32, 110, 111, 32, 115, 117, 99, 104, 32, 116, 104, 105, 110, 103]), ((RX11, 210, "it cannot be walled up", 22), 665, [105, 116, 32, 99, 97, 110, 110, 111, 116, 32, 98, 101, 32, 119, 97, 108, 108, 101, 100, 32, 117, 112]), ((RX11, 216, "it is open", 10), 691, [105, 116, 32, 105, 115, 32, 111, 112, 101, 110]), ((RX11, 221, "it cannot be hidden", 19), 705, [105, 116, 32, 99, 97, 110, 110, 111, 116, 32, 98, 101, 32, 104, 105, 100, 100, 101, 110]), ((RX11, 225, "there is no such flue", 21), 728, [116, 104, 101, 114, 101, 32, 105, 115, 32, 110, 111, 32, 115, 117, 99, 104, 32, 102, 108, 117, 101]), ((RX11, 353, "the number is none", 18), 753, [116, 104, 101, 32, 110, 117, 109, 98, 101, 114, 32, 105, 115, 32, 110, 111, 110, 101]), ((RX11, 245, "there is no such tower", 22), 775, [116, 104, 101, 114, 101, 32, 105, 115, 32, 110, 111, 32, 115, 117, 99, 104, 32, 116, 111, 119, 101, 114]), ((RX11, 359, "the tape does not tell flues", 28), 801, [116, 104, 101, 32, 116, 97, 112, 101, 32, 100, 111, 101, 115, 32, 110, 111, 116, 32, 116, 101, 108, 108, 32, 102, 108, 117, 101, 115]), ((RX11, 329, "a row of the log has no such thing", 34), 833, [97, 32, 114, 111, 119, 32, 111, 102, 32, 116, 104, 101, 32, 108, 111, 103, 32, 104, 97, 115, 32, 110, 111, 32, 115, 117, 99, 104, 32, 116, 104, 105, 110, 103]), ((RX12, 153, "house", 5), 871, [104, 111, 117, 115, 101]), ((RX12, 112, "windows", 7), 882, [119, 105, 110, 100, 111, 119, 115]), ((RX12, 118, "paper", 5), 895, [112, 97, 112, 101, 114]), ((RX12, 123, "tells", 5), 906, [116, 101, 108, 108, 115]), ((RX12, 159, "sees", 4), 916, [115, 101, 101, 115]), ((RX12, 164, "hearth", 6), 925, [104, 101, 97, 114, 116, 104]), ((RX12, 125, "fire", 4), 936, [102, 105, 114, 101]), ((RX12, 127, "oven", 4), 946, [111, 118, 101, 110]), ((RX12, 129, "forge", 5), 956, [102, 111, 114, 103, 101]), ((RX12, 131, "pot", 3), 967, [112, 111, 116]), ((RX12, 136, "of", 2), 976, [111, 102]), ((RX12, 147, "flue", 4), 983, [102, 108, 117, 101]), ((RX12, 149, "warm", 4), 993, [119, 97, 114, 109]), ((RX12, 151, "wall", 4), 1003, [119, 97, 108, 108]), ((RX12, 169, "rate", 4), 1012, [114, 97, 116, 101]), ((RX12, 174, "fine", 4), 1021, [102, 105, 110, 101]), ((RX12, 176, "visit", 5), 1030, [118, 105, 115, 105, 116]), ((RX12, 178, "bed", 3), 1040, [98, 101, 100]), ((RX12, 180, "quarter", 7), 1048, [113, 117, 97, 114, 116, 101, 114]), ((RX12, 221, "tax", 3), 1061, [116, 97, 120]), ((RX12, 223, "free", 4), 1069, [102, 114, 101, 101]), ((RX12, 225, "find", 4), 1078, [102, 105, 110, 100]), ((RX12, 227, "if", 2), 1087, [105, 102]), ((RX12, 203, "not", 3), 1094, [110, 111, 116]), ((RX12, 189, "hearths", 7), 1102, [104, 101, 97, 114, 116, 104, 115]), ((RX12, 214, "and", 3), 1114, [97, 110, 100]), ((RX12, 219, "or", 2), 1122, [111, 114])]
def zs_flat : List Cond := flatC (Jvm.Cond.and given_1 narrow_1)
theorem zs_map : zs_tab.map (fun q => q.1) = lw_strs := by decide +kernel
theorem zs_at : (zs_tab.all fun q => decide ((zs_flat.drop q.2.1).take (q.1.2.2.2 + 4) = zs_mk q.1.1 q.1.2.1 q.1.2.2.2 q.2.2) && decide (q.1.2.2.2 < 100)) = true := by decide +kernel
theorem zs_byt : (zs_tab.all fun q => (List.range q.1.2.2.2).all fun j => decide (0 ≤ (q.2.2.getD j 0).toInt ∧ (q.2.2.getD j 0).toInt ≤ 127)) = true := by decide +kernel
theorem zs_wds : (zs_tab.all fun q => lw_wb.all fun y => decide (y.1 = q.1.2.2.1 → y.2.length = q.1.2.2.2) && ((!decide (y.1 = q.1.2.2.1)) || (List.range y.2.length).all fun j => decide ((q.2.2.getD j 0).toInt = ((y.2.getD j 0 : Nat) : Int)))) = true := by decide +kernel
theorem zs_ref : (lw_strs.all fun x => decide (Cond.stringRef x.1 x.2.1 x.2.2.1 ∈ lw_tbl)) = true := by decide +kernel
theorem zs_str {x : String × Nat × String × Nat} (hx : x ∈ lw_strs) : ∃ bs : List Int32, x.2.2.2 < 100 ∧ (∀ w ∈ zs_mk x.1 x.2.1 x.2.2.2 bs, w ∈ zs_flat) ∧ (∀ j, j < x.2.2.2 → 0 ≤ (bs.getD j 0).toInt ∧ (bs.getD j 0).toInt ≤ 127) ∧ ∀ w, (x.2.2.1, w) ∈ lw_wb → w.length = x.2.2.2 ∧ ∀ j, j < w.length → (bs.getD j 0).toInt = ((w.getD j 0 : Nat) : Int) := by
  rw [← zs_map] at hx
  obtain ⟨q, hq, rfl⟩ := List.mem_map.mp hx
  have h := List.all_eq_true.mp zs_at q hq
  rw [Bool.and_eq_true] at h
  have h1 := of_decide_eq_true h.1
  refine ⟨q.2.2, of_decide_eq_true h.2, fun w hw => ?_, fun j hj => ?_, fun w hw => ?_⟩
  · rw [← h1] at hw
    exact List.mem_of_mem_drop (List.mem_of_mem_take hw)
  · exact of_decide_eq_true (List.all_eq_true.mp (List.all_eq_true.mp zs_byt q hq) j (List.mem_range.mpr hj))
  · have h9 := List.all_eq_true.mp (List.all_eq_true.mp zs_wds q hq) (q.1.2.2.1, w) hw
    rw [Bool.and_eq_true] at h9
    refine ⟨of_decide_eq_true h9.1 rfl, fun j hj => ?_⟩
    have h8 := h9.2
    rw [Bool.or_eq_true] at h8
    rcases h8 with h8 | h8
    · simp at h8
    · exact of_decide_eq_true (List.all_eq_true.mp h8 j (List.mem_range.mpr hj))
def BytN (U : State) (H : Heap) (b n : Nat) : Prop := n < 2147483648 ∧ ∃ cell : Cell, H[b]? = some cell ∧ U.isArrayOf cell .byte ∧ cell.vm ≠ .unknown ∧ (n ≤ cell.slots.size ∧ cell.slots.size.toInt32 = Int32.ofNat n) ∧ ∀ j, j < n → ∃ x : Int32, cell.slots[j]? = some (.int x) ∧ 0 ≤ x.toInt ∧ x.toInt ≤ 127
theorem str_start {args : Array Value} {s : State} {own : String} {k n : Nat} {bs : List Int32} (hn : n < 100) (hbs : ∀ j, j < n → 0 ≤ (bs.getD j 0).toInt ∧ (bs.getD j 0).toInt ≤ 127) (h : ∀ w ∈ zs_mk own k n bs, w.before args s = true) :
    ∃ a b : Nat, (Term.string own k).eval args s none [] s = some (.ref a) ∧ va_O "java/lang/String" a nz0 s s.heap ∧ va_OF "java/lang/String" "coder" "B" (.int 0) a nz0 s s.heap ∧ va_OF "java/lang/String" "value" "[B" (.ref b) a nz0 s s.heap ∧ BytN s s.heap b n ∧ ∀ j, j < n → eI s.heap b j = bs.getD j 0 := by
  have h1 := h (.exactly (.string own k) "java/lang/String") (by simp [zs_mk])
  have h2 := h (.eq (.field (.string own k) "java/lang/String" "coder" "B") (.int 0)) (by simp [zs_mk])
  have h3 := h (.arrayOf (.field (.string own k) "java/lang/String" "value" "[B") .byte) (by simp [zs_mk])
  have h4 := h (.eq (.length (.field (.string own k) "java/lang/String" "value" "[B")) (.int (Int32.ofNat n))) (by simp [zs_mk])
  have h5 : ∀ j : Nat, j < n → (Cond.eq (.elem (.field (.string own k) "java/lang/String" "value" "[B") (.int (Int32.ofNat j))) (.int (bs.getD j 0))).before args s = true := fun j hj => h _ (by
    unfold zs_mk
    refine List.mem_cons_of_mem _ (List.mem_cons_of_mem _ (List.mem_cons_of_mem _ (List.mem_cons_of_mem _ (List.mem_map.mpr ⟨j, List.mem_range.mpr hj, rfl⟩)))))
  obtain ⟨a, c, cA, kA, q1, q2, q3, q4, q5, q6, -⟩ := Cond.exactly_spec (args := args) (first := s) (o := none) (s := s) (idx := []) (t := .string own k) (cls := "java/lang/String") h1
  obtain ⟨t, ht, cell, t1, t2, t3, t4, t5, t6, t7⟩ := va_Tof (f := fun j => .int (bs.getD j 0)) (A := nz0) (by omega) h3 (va_eqt h4) (fun j hj => va_eqt (h5 j hj)) nz0_no
  exact ⟨a, t, q1, ⟨cA, q3, q5, by rw [q6]; exact q2, nz0_no a (Array.getElem?_eq_some_iff.mp q3).1⟩, vk_OFof q1 (va_eqt h2) nz0_no, vk_OFof q1 ht nz0_no, ⟨by omega, cell, t1, t2, t3, ⟨t4, t5⟩, fun j hj => ⟨_, t6 j hj, hbs j hj⟩⟩, fun j hj => by
    unfold eI eV
    rw [t1]
    show vI ((cell.slots[j]?).getD .null) = _
    rw [t6 j hj]
    rfl⟩
theorem byt_uni {U : State} {H : Heap} {b n n' : Nat} (h : BytN U H b n) (h' : BytN U H b n') : n = n' := by
  obtain ⟨h2, c, h3, -, -, h6, -⟩ := h
  obtain ⟨k2, c', k3, -, -, k6, -⟩ := h'
  cases h3.symm.trans k3
  have e : Int32.ofNat n = Int32.ofNat n' := h6.2.symm.trans k6.2
  have e2 := congrArg Int32.toInt e
  rw [i_of h2, i_of k2] at e2
  omega
theorem of_uni {o n d : String} {b b' a : Nat} {A : Nat → Prop} {U : State} {H : Heap} (h : va_OF o n d (.ref b) a A U H) (h' : va_OF o n d (.ref b') a A U H) : b = b' := by
  obtain ⟨cf, k, i, f, c, h1, -, h3, -, h5, -⟩ := h
  obtain ⟨cf', k', i', f', c', k1, -, k3, -, k5, -⟩ := h'
  cases h3.symm.trans k3
  cases h1.symm.trans k1
  cases h5.symm.trans k5
  rfl
theorem byt_fun (s : State) : ∃ fB : Nat → Nat, ∀ b, (∀ n, fB b = n + 1 → BytN s s.heap b n) ∧ ∀ n, BytN s s.heap b n → fB b = n + 1 := by
  have key9 : ∀ b : Nat, ∃ v : Nat, (∀ n, v = n + 1 → BytN s s.heap b n) ∧ ∀ n, BytN s s.heap b n → v = n + 1 := by
    intro b
    by_cases h : ∃ n, BytN s s.heap b n
    · obtain ⟨n, hn⟩ := h
      exact ⟨n + 1, fun n' e => (by cases e; exact hn), fun n' h' => by rw [byt_uni hn h']⟩
    · exact ⟨0, fun n' e => (by cases e), fun n' h' => absurd ⟨n', h'⟩ h⟩
  exact Classical.axiomOfChoice key9
def sQ (s : State) (fB : Nat → Nat) (a n : Nat) : Prop := va_O "java/lang/String" a nz0 s s.heap ∧ va_OF "java/lang/String" "coder" "B" (.int 0) a nz0 s s.heap ∧ ∃ b : Nat, va_OF "java/lang/String" "value" "[B" (.ref b) a nz0 s s.heap ∧ fB b = n + 1
theorem str_fun (s : State) (fB : Nat → Nat) : ∃ fS : Nat → Nat, ∀ a, (∀ n, fS a = n + 1 → sQ s fB a n) ∧ ∀ n, sQ s fB a n → fS a = n + 1 := by
  have key9 : ∀ a : Nat, ∃ v : Nat, (∀ n, v = n + 1 → sQ s fB a n) ∧ ∀ n, sQ s fB a n → v = n + 1 := by
    intro a
    by_cases h : ∃ n, sQ s fB a n
    · obtain ⟨n, hn⟩ := h
      refine ⟨n + 1, fun n' e => (by cases e; exact hn), fun n' h' => ?_⟩
      obtain ⟨-, -, b, h3, h4⟩ := hn
      obtain ⟨-, -, b', k3, k4⟩ := h'
      have e := of_uni h3 k3
      subst e
      exact h4.symm.trans k4
    · exact ⟨0, fun n' e => (by cases e), fun n' h' => absurd ⟨n', h'⟩ h⟩
  exact Classical.axiomOfChoice key9
theorem val_fun (s : State) : ∃ fV : Nat → Nat, ∀ a b, va_OF "java/lang/String" "value" "[B" (.ref b) a nz0 s s.heap → fV a = b := by
  have key9 : ∀ a : Nat, ∃ v : Nat, ∀ b, va_OF "java/lang/String" "value" "[B" (.ref b) a nz0 s s.heap → v = b := by
    intro a
    by_cases h : ∃ b, va_OF "java/lang/String" "value" "[B" (.ref b) a nz0 s s.heap
    · obtain ⟨b, hb⟩ := h
      exact ⟨b, fun b' h' => of_uni hb h'⟩
    · exact ⟨0, fun b' h' => absurd ⟨b', h'⟩ h⟩
  exact Classical.axiomOfChoice key9
theorem BytN.cont {s : State} {D : DD} {b n : Nat} (h : BytN s s.heap b n) (hc : ∀ j, D.1.2 (100 + 2 * j) b = (eI s.heap b j).toInt.toNat) : BytU D (fun _ => 0) s s.heap b n := by
  obtain ⟨h1, cell, h2, h3, h4, h5, h6⟩ := h
  refine ⟨rfl, h1, cell, h2, h3, h4, h5, fun j hj => ?_⟩
  obtain ⟨x, k1, k2, k3⟩ := h6 j hj
  have e : eI s.heap b j = x := by
    unfold eI eV
    rw [h2]
    show vI ((cell.slots[j]?).getD .null) = _
    rw [k1]
    rfl
  refine ⟨x, k1, ?_, ?_⟩ <;> rw [hc j, e] <;> omega
theorem zs_inst : (vwCl.all fun q => decide (Cond.instantiable q.1 q.2.2 ∈ lw_tbl)) = true := by decide +kernel
theorem cls_fun {s : State} {args : Array Value} (hts : ∀ w ∈ lw_tbl, w.before args s = true) : ∃ f : Nat → ClassId × (Nat → Nat), ∀ c r, vwCl[c]? = some r → u_Kn s r.1 r.2.1 r.2.2 (f c).1 (f c).2 := by
  have key9 : ∀ c : Nat, ∃ f : ClassId × (Nat → Nat), ∀ r, vwCl[c]? = some r → u_Kn s r.1 r.2.1 r.2.2 f.1 f.2 := by
    intro c
    cases h : vwCl[c]? with
    | none => exact ⟨(0, fun _ => 0), fun r e => (by cases e)⟩
    | some r =>
      have hi := of_decide_eq_true (List.all_eq_true.mp zs_inst r (List.mem_of_getElem? h))
      obtain ⟨cC, iS, hk⟩ := u_known (C := r.1) (T := r.2.1) (N := r.2.2) (fun w hw => hts w (List.mem_filter.mp hw).1) (vw_in h).1 (hts _ hi)
      exact ⟨(cC, iS), fun r' e => (by cases e; exact hk)⟩
  exact Classical.axiomOfChoice key9
abbrev zs_tys : List FieldType := [.int, .byte, .long, .object "HearthMoney$House", .object "HearthMoney$Hearth", .object "HearthMoney$Parish", .array .int]
theorem ty_prim {s : State} {args : Array Value} {ty : FieldType} (h : (Cond.arrayClass ty).before args s = true) (hp : ∀ cA, s.vm.findClass ("[" ++ ty.toString) = some cA → va_RA s cA ty) : ∃ cA, ArrOfT s cA ty ∧ va_RA s cA ty := by
  obtain ⟨cA, kA, comp, h1, h2, h3⟩ := Cond.arrayClass_spec h
  exact ⟨cA, fun n z => ⟨fun k h => (by cases h), kA, h2, comp, h3⟩, hp cA h1⟩
theorem ty_obj {s : State} {C : String} (h : va_AO C s) : ∃ cA, ArrOfT s cA (.object C) ∧ va_RA s cA (.object C) := by
  obtain ⟨comp, cA, kA, h1, -, h3, h4, h5⟩ := Cond.arrayOver_spec h
  exact ⟨cA, fun n z => ⟨fun k h => (by cases h), kA, h3, comp, h4⟩, kA, comp, h3, h4, h1, h5⟩
theorem ty_arr {s : State} (h : (Cond.arrayOver (.array .int)).before #[] s = true) : ∃ cA, ArrOfT s cA (.array .int) ∧ va_RA s cA (.array .int) := by
  obtain ⟨comp, cA, kA, h1, -, h3, h4, h5⟩ := arrayOverA_spec h
  exact ⟨cA, fun n z => ⟨fun k h => (by cases h), kA, h3, comp, h4⟩, h5⟩
theorem zs_over : Cond.arrayOver (.object RX2) ∈ lw_tbl ∧ Cond.arrayOver (.object RX1) ∈ lw_tbl ∧ Cond.arrayOver (.object RX5) ∈ lw_tbl ∧ Cond.arrayOver (.array .int) ∈ lw_tbl := ⟨by decide +kernel, by decide +kernel, by decide +kernel, by decide +kernel⟩
theorem cast_start {s : State} {args : Array Value} (hts : ∀ w ∈ lw_tbl, w.before args s = true) : ∀ w ∈ lw_cast, va_Nw w s := by
  intro w hw
  obtain ⟨h1, h2⟩ := List.mem_filter.mp hw
  have h9 := hts w h1
  cases w <;> first | (simp [lw_isc] at h2; done) | exact h9
theorem ao_start {s : State} {args : Array Value} (hts : ∀ w ∈ lw_tbl, w.before args s = true) : Ao s := ⟨va_AO.of (hts _ zs_over.1), va_AO.of (hts _ zs_over.2.1), va_AO.of (hts _ zs_over.2.2.1), hts _ zs_over.2.2.2, fun w hw => cast_start hts w (lw_nest_cast w hw)⟩
theorem ty_fun {s : State} {args : Array Value} (hts : ∀ w ∈ lw_tbl, w.before args s = true) : ∃ f : Nat → ClassId, ∀ t ty, zs_tys[t]? = some ty → ArrOfT s (f t) ty ∧ va_RA s (f t) ty := by
  have hA := ao_start hts
  have hg : ∀ w ∈ lw_good, w.before args s = true := fun w hw => hts w (List.mem_filter.mp hw).1
  have key9 : ∀ t : Nat, ∃ f : ClassId, ∀ ty, zs_tys[t]? = some ty → ArrOfT s f ty ∧ va_RA s f ty := by
    intro t
    have key : ∀ ty, zs_tys[t]? = some ty → ∃ cA, ArrOfT s cA ty ∧ va_RA s cA ty := by
      intro ty h
      match t, h with
      | 0, h => cases h; exact ty_prim (hg _ kAI) (fun _ h => h)
      | 1, h => cases h; exact ty_prim (hg _ kAB) (fun _ h => h)
      | 2, h => cases h; exact ty_prim (hg _ kAL) (fun _ h => h)
      | 3, h => cases h; exact ty_obj hA.1
      | 4, h => cases h; exact ty_obj hA.2.1
      | 5, h => cases h; exact ty_obj hA.2.2.1
      | 6, h => cases h; exact ty_arr hA.2.2.2.1
      | t + 7, h => cases h
    cases h : zs_tys[t]? with
    | none => exact ⟨0, fun ty e => (by cases e)⟩
    | some ty =>
      obtain ⟨cA, h1⟩ := key ty h
      exact ⟨cA, fun ty' e => (by cases e; exact h1)⟩
  exact Classical.axiomOfChoice key9
theorem zs_stat : Cond.laysStatic "java/lang/String" "COMPACT_STRINGS" "Z" ∈ lw_tbl ∧ Cond.initialized "java/lang/String" ∈ lw_tbl ∧ Cond.laysStatic "jdk/internal/util/Preconditions" "SIOOBE_FORMATTER" "Ljava/util/function/BiFunction;" ∈ lw_tbl ∧ Cond.initialized "jdk/internal/util/Preconditions" ∈ lw_tbl ∧ Cond.laysStatic Bundle.tN "UNASSIGNED_STACK" Bundle.steD ∈ lw_tbl ∧ Cond.initialized Bundle.tN ∈ lw_tbl ∧ Cond.laysStatic Bundle.tN "SUPPRESSED_SENTINEL" Bundle.listD ∈ lw_tbl := ⟨by decide +kernel, by decide +kernel, by decide +kernel, by decide +kernel, by decide +kernel, by decide +kernel, by decide +kernel⟩
theorem zs_say : Cond.eq (.static "java/lang/String" "COMPACT_STRINGS" "Z") (.int 1) ∈ zs_flat ∧ Cond.isRef (.static "jdk/internal/util/Preconditions" "SIOOBE_FORMATTER" "Ljava/util/function/BiFunction;") ∈ zs_flat ∧ Cond.isRef (.static Bundle.tN "UNASSIGNED_STACK" Bundle.steD) ∈ zs_flat ∧ Cond.isRef (.static Bundle.tN "SUPPRESSED_SENTINEL" Bundle.listD) ∈ zs_flat := ⟨by decide +kernel, by decide +kernel, by decide +kernel, by decide +kernel⟩
theorem zs_nc : (lw_ncs.all fun q => decide (Cond.not (.castable q.1 q.2) ∈ zs_flat)) = true := by decide +kernel
theorem start_all {s : State} {args : Array Value} (hts : ∀ w ∈ lw_tbl, w.before args s = true) (hgv : (Jvm.Cond.and given_1 narrow_1).before args s = true) : ∃ D : DD, Kn D s ∧ Zs D (fun _ => 0) s s.heap := by
  have hn : ∀ w ∈ zs_flat, w.before args s = true := flat_of_before _ hgv
  obtain ⟨fC, hC⟩ := cls_fun hts
  obtain ⟨fT, hT⟩ := ty_fun hts
  obtain ⟨fB, hB⟩ := byt_fun s
  obtain ⟨fS, hS⟩ := str_fun s fB
  obtain ⟨fV, hV⟩ := val_fun s
  obtain ⟨tb, htb⟩ : ∃ tb : Nat → Nat → Nat, tb = fun c => if c = 98 then fB else if c = 99 then fS else if c < 100 then (fC c).2 else if c % 2 = 0 then (fun y => (eI s.heap y ((c - 100) / 2)).toInt.toNat) else (fun y => (eI s.heap (fV y) ((c - 101) / 2)).toInt.toNat) := ⟨_, rfl⟩
  have t98 : tb 98 = fB := by rw [htb]; rfl
  have t99 : tb 99 = fS := by rw [htb]; rfl
  have tbe : ∀ j y : Nat, tb (100 + 2 * j) y = (eI s.heap y j).toInt.toNat := fun j y => by
    rw [htb]
    show (if 100 + 2 * j = 98 then fB else _) y = _
    rw [if_neg (by omega), if_neg (by omega), if_neg (by omega), if_pos (by omega), show (100 + 2 * j - 100) / 2 = j by omega]
  have tbo : ∀ j y : Nat, tb (101 + 2 * j) y = (eI s.heap (fV y) j).toInt.toNat := fun j y => by
    rw [htb]
    show (if 101 + 2 * j = 98 then fB else _) y = _
    rw [if_neg (by omega), if_neg (by omega), if_neg (by omega), if_neg (by omega), show (101 + 2 * j - 101) / 2 = j by omega]
  refine ⟨((fun c => (fC c).1, tb), fT), ⟨fun c r h => ?_, fun t q h => ?_⟩, va_Zof (hts _ zs_stat.1) (hts _ zs_stat.2.1) (va_eqi (hn _ zs_say.1)) nz0_no, va_Zqof (hts _ zs_stat.2.2.1) (hts _ zs_stat.2.2.2.1) (hn _ zs_say.2.1) nz0_no, vx_Zqof (hts _ zs_stat.2.2.2.2.1) (hts _ zs_stat.2.2.2.2.2.1) (hn _ zs_say.2.2.1) nz0_no, vx_Zqof (hts _ zs_stat.2.2.2.2.2.2) (hts _ zs_stat.2.2.2.2.2.1) (hn _ zs_say.2.2.2) nz0_no, ⟨cast_start hts, fun q hq => va_Nc.of (hn _ (of_decide_eq_true (List.all_eq_true.mp zs_nc q hq)))⟩, fun a n h => ?_, fun b n h => ((hB b).1 n (by rw [← t98]; exact h)).cont (fun j => tbe j b), fun x hx => ?_⟩
  · have hc : c < 12 := (List.getElem?_eq_some_iff.mp h).1
    have e : tb c = (fC c).2 := by
      rw [htb]
      show (if c = 98 then fB else _) = _
      rw [if_neg (by omega), if_neg (by omega), if_pos (by omega)]
    show u_Kn s r.1 r.2.1 r.2.2 (fC c).1 (tb c)
    rw [e]
    exact hC c r h
  · match t, h with
    | 0, h => cases h; exact hT 0 _ rfl
    | 1, h => cases h; exact hT 1 _ rfl
    | 2, h => cases h; exact hT 2 _ rfl
    | 3, h => cases h; exact hT 3 _ rfl
    | 4, h => cases h; exact hT 4 _ rfl
    | 5, h => cases h; exact hT 5 _ rfl
    | 6, h => cases h; exact hT 6 _ rfl
    | t + 7, h => cases h
  · have h' : fS a = n + 1 := by rw [← t99]; exact h
    obtain ⟨h1, h2, b, h3, h4⟩ := (hS a).1 n h'
    refine ⟨h1, h2, b, h3, ?_, fun j hj => ?_⟩
    · show tb 98 b = n + 1
      rw [t98]
      exact h4
    · show tb (101 + 2 * j) a = tb (100 + 2 * j) b
      rw [tbe, tbo, hV a b h3]
  · obtain ⟨bs, hl, hw, hbs, hwd⟩ := zs_str hx
    obtain ⟨a, b, e1, e2, e3, e4, e5, e6⟩ := str_start hl hbs (fun w h => hn w (hw w h))
    have hr := of_decide_eq_true (List.all_eq_true.mp zs_ref x hx)
    refine ⟨a, vk_R.of (hts _ hr) e1, ?_, fun w hw9 j hj => ?_⟩
    · show tb 99 a = x.2.2.2 + 1
      rw [t99]
      exact (hS a).2 _ ⟨e2, e3, b, e4, (hB b).2 _ e5⟩
    · show tb (101 + 2 * j) a = w.getD j 0
      obtain ⟨k1, k2⟩ := hwd w hw9
      rw [tbo, hV a b e4, e6 j (by omega), k2 j hj]
      rfl
