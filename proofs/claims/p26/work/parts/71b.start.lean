/-! the law's entry: one class, one model, the place for an answer; then the loop -/
theorem HSh.kept {D : DD} {H H1 : Heap} {a n : Nat} (h : HSh D H a n) (h1 : H1[a]? = H[a]?) (h2 : ∀ q : Nat, n ≤ q → q < n + 414 → H1[q]? = H[q]?) : HSh D H1 a n := by
  obtain ⟨s1, s2, s3, s4, s5, s6, s7, s8, s9⟩ := h
  exact ⟨s1.kept h1, s2.kept (h2 _ (by omega) (by omega)) (fun q a b => h2 q (by omega) (by omega)), s3.kept (h2 _ (by omega) (by omega)) (fun q a b => h2 q (by omega) (by omega)), s4.kept (h2 _ (by omega) (by omega)) (fun q a b => h2 q (by omega) (by omega)), s5.kept (h2 _ (by omega) (by omega)) (fun q a b => h2 q (by omega) (by omega)), s6.kept (h2 _ (by omega) (by omega)) (fun q a b => h2 q (by omega) (by omega)), s7.kept (h2 _ (by omega) (by omega)) (fun q a b => h2 q (by omega) (by omega)), s8.kept (h2 _ (by omega) (by omega)) (fun q a b => by omega), s9.kept (h2 _ (by omega) (by omega)) (fun q a b => h2 q (by omega) (by omega))⟩
theorem MSh.kept {D : DD} {H H1 : Heap} {a n : Nat} (h : MSh D H a n) (h1 : H1[a]? = H[a]?) (h2 : ∀ q : Nat, n ≤ q → q < n + 8 → H1[q]? = H[q]?) : MSh D H1 a n := by
  obtain ⟨s1, s2, s3, s4, s5, s6, s7, s8, s9⟩ := h
  exact ⟨s1.kept h1, by rw [h2 _ (by omega) (by omega)]; exact s2, by rw [h2 _ (by omega) (by omega)]; exact s3, by rw [h2 _ (by omega) (by omega)]; exact s4, by rw [h2 _ (by omega) (by omega)]; exact s5, by rw [h2 _ (by omega) (by omega)]; exact s6, by rw [h2 _ (by omega) (by omega)]; exact s7, by rw [h2 _ (by omega) (by omega)]; exact s8, by rw [h2 _ (by omega) (by omega)]; exact s9⟩
theorem kn_L_8 : ∀ w ∈ ([.classLink RL 8 RX11, .instantiable RX11 10, .initialized RX11] : List Cond), w ∈ lw_good := mem_dec (by decide +kernel)
theorem kn_L_118 : ∀ w ∈ ([.classLink RL 118 RX12, .instantiable RX12 18, .initialized RX12] : List Cond), w ∈ lw_good := mem_dec (by decide +kernel)
section LStart
variable {p : Program} {l : Launch} {e : Env} {R : Room} {s : State} {m : MethodId} {args : Array Value} {below : List Frame} {meth : Method} {c : Code} {H : Heap} {locs : List Loc} {cells slots : Nat} {Q : State → Prop}
variable {cc cc' : ByteArray} {pc nL nL' idx h mc' ms' b : Nat} {ls : Array Slot} {rest : List Value} {D : DD} {G : Nat → Nat} {own : String} {y : MethodName} {Pre : Heap → Prop} {post : Heap → Heap → Prop}
theorem l_ctor (C : Cx D G p s m args meth c own cc nL) (hA : Ao s) (hM : CS l Ao D y cc' nL' h mc' ms' [.ref b] b Pre post) (hw : ∀ w ∈ ([.methodLink own idx y, .instanceMethod y, .initialized y.cls, .code y cc' nL' none] : List Cond), w ∈ lw_good) (hpre : Pre H) (hdg : decode cc pc = .ok (.invokespecial idx, 3)) (hsz : ls.size = nL) (hin : y.name = "<init>") (hd : Cd y 0)
    (hR : h + 9 ≤ R.frames ∧ 8 + (nL' + 11) + (150 + 40 * h) ≤ R.locals ∧ cells + mc' ≤ R.cells ∧ slots + ms' ≤ R.slots ∧ (rest.map fun v => v.category).sum ≤ 8)
    (kk : ∀ (H1 : Heap) (L : List Loc), H1.size = H.size + mc' → (∀ q : Nat, q < H.size → q ≠ b → H1[q]? = H[q]?) → post H H1 → (∀ z ∈ L, z.base = b) → W p l e R s m args below meth c H1 (locs ++ L) (cells + mc') (slots + ms') Q (F0 m (pc + 3) ls rest)) : W p l e R s m args below meth c H locs cells slots Q (F0 m pc ls (.ref b :: rest)) := by
  have hts := C.2.2.2.2.1
  have g := va_runI (g := F0 m pc ls (([] : List Value).reverse ++ .ref b :: rest)) (rest := rest) (R := R) (locs := locs) (cells := cells) (slots := slots) (below := below) (meth := meth) (H := H) (e := e) (nL := nL) ⟨C.1, C.2.1, C.2.2.1, C.2.2.2.1, hts⟩ hM ⟨callB_of 0 hts (goodU (hw _ (by simp))) rfl rfl rfl (hts _ (hw _ (by simp))) (hts _ (hw _ (by simp))) hd ⟨hR.1, hR.2.1⟩, hin, hts _ (hw _ (by simp))⟩
    ⟨PcS.blind, fun U hU hW => ⟨rfl, C.2.2.2.2.2.2.1.moved hW.alike, hA.moved hW, by rw [hU]; exact hpre⟩⟩ rfl rfl hsz rfl (by show 2 * 0 + _ ≤ 8; simpa using hR.2.2.2.2) hdg ⟨hR.2.2.1, hR.2.2.2.1⟩
  intro T hT X
  obtain ⟨v, st₀, t, T', L, h0, X', hL, e1, e2, ⟨hv, hz, hf, hp⟩, st⟩ := g T hT X
  cases hv
  rw [h0] at hp hf hz
  obtain ⟨t2, a1, b1⟩ := kk t.heap L hz hf hp (fun z hz => hL z hz) T' e1 X'
  exact ⟨t2, st t2 a1, b1⟩
end LStart
set_option maxHeartbeats 4000000 in
theorem whole_start {p : Program} {e : Env} {s : State} {m : MethodId} {below : List Frame} {meth : Method} {c : Code} (l : Launch) (hl0 : l.stackTraces = false) {b L : Nat} {xs : Nat → Int32} (hL : L ≤ 3072) (C0 : lw_At p s m meth c b L xs) : W p l e room_1 s m #[Value.ref b] below meth c s.heap [] 0 0 (lw_Z below #[Value.ref b] s) (entryFrame m ([Value.ref b] : List Value).toArray 7) := by
  obtain ⟨hx, hb, hr, hml, hown, hts, hX, hbl, hlk, hgv⟩ := C0
  obtain ⟨D, hK, hZ⟩ := start_all hts hgv
  have hA := ao_start hts
  have C : Cx D (fun _ => 0) p s m #[.ref b] meth c RL code 7 := ⟨hx, hb, hml, hown, fun w hw => hts w (List.mem_filter.mp hw).1, hlk, hK, hZ⟩
  have key : ∀ ls : Array Slot, lv_has ls 7 [(0, .ref b)] → W p l e room_1 s m #[Value.ref b] below meth c s.heap [] 0 0 (lw_Z below #[Value.ref b] s) (F0 m 0 ls []) := by
    intro ls hl
    refine x_new (ci := 10) (N := 10) (rest := []) C rfl kn_L_8 dL_law__0 rfl ⟨Nat.le_of_ble_eq_true rfl, Nat.le_of_ble_eq_true rfl⟩ (fun H1 o1 z1 k1 => ?_)
    refine lv_dup hx hb dL_law__3 rfl ?_
    refine l_ctor (rest := [.ref s.heap.size]) C hA (c_X11_init l D s.heap.size) kI_L_117 o1 dL_law__4 hl.1 rfl cd_X11_init ⟨Nat.le_of_ble_eq_true rfl, Nat.le_of_ble_eq_true rfl, Nat.le_of_ble_eq_true rfl, Nat.le_of_ble_eq_true rfl, Nat.le_of_ble_eq_true rfl⟩ (fun H2 L2 z2 k2 p2 b2 => ?_)
    refine lv_astore_n (lv' := [(1, .ref s.heap.size), (0, .ref b)]) hx hb dL_law__7 rfl hl (by decide) rfl (fun ls hl => ?_)
    refine x_new (ci := 11) (N := 18) (rest := []) C rfl kn_L_118 dL_law__8 rfl ⟨Nat.le_of_ble_eq_true rfl, Nat.le_of_ble_eq_true rfl⟩ (fun H3 o3 z3 k3 => ?_)
    refine lv_dup hx hb dL_law__11 rfl ?_
    refine l_ctor (rest := [.ref H2.size]) C hA (c_X12_init l D H2.size) kI_L_120 o3 dL_law__12 hl.1 rfl cd_X12_init ⟨Nat.le_of_ble_eq_true rfl, Nat.le_of_ble_eq_true rfl, Nat.le_of_ble_eq_true rfl, Nat.le_of_ble_eq_true rfl, Nat.le_of_ble_eq_true rfl⟩ (fun H4 L4 z4 k4 p4 b4 => ?_)
    refine lv_astore_n (lv' := [(2, .ref H2.size), (1, .ref s.heap.size), (0, .ref b)]) hx hb dL_law__15 rfl hl (by decide) rfl (fun ls hl => ?_)
    refine lv_iconst (v := 1) hx hb dL_law__16 (by decide) ?_
    refine va_newaK hx hb (atype := .long) (C.2.2.2.2.1 _ kAL) (g := F0 m 17 ls [.int 1]) rfl dL_law__17 rfl (by decide) (N := 1) rfl (by decide) (Nat.le_of_ble_eq_true rfl) (Nat.le_of_ble_eq_true rfl) rfl fun H5 cA e5 z5 k5 _ hNm => ?_
    have hcA : cA = D.2 2 := Option.some.inj (hNm.symm.trans (hK.2 2 _ rfl).2)
    subst hcA
    have h2s : H2.size = s.heap.size + 415 := by omega
    have h4s : H4.size = s.heap.size + 424 := by omega
    rw [show ({ F0 m 17 ls [.int 1] with pc := (F0 m 17 ls [.int 1]).pc + 2, stack := .ref H4.size :: [] } : JFrame) = F0 m 19 ls [.ref H4.size] from rfl]
    refine lv_astore_n (lv' := [(3, .ref H4.size), (2, .ref H2.size), (1, .ref s.heap.size), (0, .ref b)]) hx hb dL_law__19 rfl hl (by decide) rfl (fun ls hl => ?_)
    refine lv_iconst (v := 0) hx hb dL_law__20 (by decide) ?_
    refine lv_istore (lv' := [(4, .int (0 : Int32)), (3, .ref H4.size), (2, .ref H2.size), (1, .ref s.heap.size), (0, .ref b)]) hx hb dL_law__21 hl (by decide) rfl (fun ls hl => ?_)
    have kb : ∀ q : Nat, q < H2.size → H5[q]? = H2[q]? := fun q hq => by
      rw [k5 q (by omega), k4 q (by omega) (by omega), k3 q hq]
    have hs : HSh D H5 s.heap.size (s.heap.size + 1) := by
      rw [z1] at p2
      exact p2.kept (kb _ (by omega)) (fun q h1 h2 => kb q (by omega))
    have hm : MSh D H5 (s.heap.size + 415) (s.heap.size + 416) := by
      rw [z3, h2s] at p4
      exact p4.kept (k5 _ (by omega)) (fun q h1 h2 => k5 q (by omega))
    have hla : LA D H5 (s.heap.size + 424) := by
      rw [← h4s]
      exact ⟨fun _ => 0, e5⟩
    have hq : ∀ q : Nat, q < s.heap.size → H5[q]? = s.heap[q]? := fun q hq => by
      rw [kb q (by omega), k2 q (by omega) (by omega), k1 q hq]
    have hlo : ∀ z ∈ ([] ++ L2 ++ L4 : List Loc), s.heap.size ≤ z.base := by
      intro z hz
      rcases List.mem_append.mp hz with h9 | h9
      · have := b2 z (by simpa using h9)
        rw [this]
        exact Nat.le_refl _
      · have := b4 z h9
        rw [this, h2s]
        exact Nat.le_add_right _ _
    obtain ⟨I, tp⟩ := start_iv (G := fun q => if q < s.heap.size then 0 else rol (q - s.heap.size)) hs hm hla (fun c => by rw [if_neg (by omega), Nat.add_sub_cancel_left]) (fun q h => if_pos h) (by omega) hq hlo
    rw [h2s, h4s] at hl
    refine W.widen (Nat.le_of_ble_eq_true rfl) (Nat.le_of_ble_eq_true rfl) (law_loop hl0 C hX hbl hL hr 513 0 _ H5 _ ls 0 _ _ _ I ⟨tp, (start_fq hs hm).1, (start_fq hs hm).2, start_vq hs hm⟩ rfl (by decide) (by decide) ⟨hl.1, hl.2.1, ?_⟩)
    intro q hq9
    refine hl.2.2 q ?_
    simp only [List.mem_cons, List.not_mem_nil, or_false] at hq9 ⊢
    rcases hq9 with h | h | h | h | h <;> simp [h]
  have hl := lv_entry [Value.ref b] (n := 7) (Nat.le_of_ble_eq_true rfl)
  rw [lg_entry_eq]
  exact key _ hl
