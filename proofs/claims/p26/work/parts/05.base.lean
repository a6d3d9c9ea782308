/-! the roles that cells play, and what the heap holds of them -/
abbrev DD : Type := va_G × (Nat → ClassId)
abbrev kn_tys (D : DD) : List (ClassId × FieldType) := [(D.2 0, .int), (D.2 1, .byte), (D.2 2, .long), (D.2 3, .object "HearthMoney$House"), (D.2 4, .object "HearthMoney$Hearth"), (D.2 5, .object "HearthMoney$Parish"), (D.2 6, .array .int)]
def Kn (D : DD) (U : State) : Prop := va_K D.1 vwCl (kn_tys D) U
theorem Kn.moved {D : DD} {u U : State} (hvm : u.vm.Alike U.vm) (h : Kn D u) : Kn D U := va_K.moved hvm h
def vI (v : Value) : Int32 := match v with | .int x => x | _ => 0
def vR (v : Value) : Nat := match v with | .ref a => a | _ => 0
/-- a field, an element, a length -/
def fV (D : DD) (H : Heap) (ci a k : Nat) : Value := match H[a]? with | some c9 => (c9.slots[D.1.2 ci k]?).getD .null | none => .null
def eV (H : Heap) (a i : Nat) : Value := match H[a]? with | some c9 => (c9.slots[i]?).getD .null | none => .null
def fI (D : DD) (H : Heap) (ci a k : Nat) : Int32 := vI (fV D H ci a k)
def fR (D : DD) (H : Heap) (ci a k : Nat) : Nat := vR (fV D H ci a k)
def eI (H : Heap) (a i : Nat) : Int32 := vI (eV H a i)
def eR (H : Heap) (a i : Nat) : Nat := vR (eV H a i)
def aN (H : Heap) (a : Nat) : Nat := match H[a]? with | some c9 => c9.slots.size | none => 0
/-- objects: the number of the class among vwCl, the fields -/
def ro (r : Nat) : Option (Nat × Nat) := match r with
  | 1 => some (10, 10) | 2 => some (9, 7) | 4 => some (5, 14) | 7 => some (2, 5) | 8 => some (1, 6) | 9 => some (0, 3) | 12 => some (3, 4) | 16 => some (7, 3)
  | 18 => some (8, 5) | 20 => some (6, 3) | 21 => some (4, 5) | 23 => some (5, 14) | 25 => some (1, 6) | 30 => some (11, 18) | _ => none
/-- arrays of numbers: which -/
def ri (r : Nat) : Option Nat := match r with
  | 3 => some 0 | 11 => some 0 | 13 => some 0 | 14 => some 0 | 15 => some 0 | 19 => some 0 | 22 => some 0 | 31 => some 0 | 32 => some 0 | 33 => some 0 | 34 => some 0 | 35 => some 0 | 36 => some 1 | 37 => some 0 | 38 => some 0 | 40 => some 0 | _ => none
/-- arrays of references: which, how many, to what -/
def rr (r : Nat) : Option (Nat × Nat × Nat) := match r with
  | 5 => some (3, 6, 7) | 6 => some (4, 12, 8) | 24 => some (4, 12, 25) | 10 => some (6, 4, 11) | 17 => some (5, 12, 4) | _ => none
theorem ro_ri {r : Nat} {x : Nat × Nat} {t : Nat} (h : ro r = some x) (h2 : ri r = some t) : False := by
  unfold ro at h
  split at h <;> first | (simp [ri] at h2; done) | (cases h; done) | cases h2
theorem ro_rr {r : Nat} {x : Nat × Nat} {t : Nat × Nat × Nat} (h : ro r = some x) (h2 : rr r = some t) : False := by
  unfold ro at h
  split at h <;> first | (simp [rr] at h2; done) | (cases h; done) | cases h2
theorem ri_rr {r : Nat} {x : Nat} {t : Nat × Nat × Nat} (h : ri r = some x) (h2 : rr r = some t) : False := by
  unfold ri at h
  split at h <;> first | (simp [rr] at h2; done) | (cases h; done) | cases h2
abbrev FT : Type := Nat × Nat × Nat × Int × Int
abbrev f_any : FT := (0, 0, 0, -2147483648, 2147483647)
abbrev f_in (lo hi : Int) : FT := (0, 0, 0, lo, hi)
abbrev f_to (r : Nat) : FT := (1, r, r, 0, 0)
/-- what a field of a role holds -/
def ft (r k : Nat) : FT := match r with
  | 1 => (match k with | 0 => f_to 2 | 1 => f_to 4 | 2 => (1, 23, 4, 0, 0) | 3 => f_to 4 | 4 => f_to 16 | 5 => f_to 18 | 6 => f_to 20 | 7 => f_to 21 | 8 => f_in 0 1 | _ => f_any)
  | 2 => (match k with | 0 => f_to 3 | 1 => f_in 0 400 | 4 => f_in 0 400 | 5 => f_in 0 400 | _ => f_any)
  | 4 => (match k with | 0 => f_to 5 | 1 => f_to 6 | 2 => f_to 9 | 3 => f_in 0 6 | 4 => f_in 0 12 | 13 => (2, 12, 12, 0, 0) | _ => f_any)
  | 23 => (match k with | 0 => f_to 5 | 1 => f_to 24 | 2 => f_to 9 | 3 => f_in 0 6 | 4 => f_in 0 12 | 13 => (2, 12, 12, 0, 0) | _ => f_any)
  | 7 => (match k with | 1 => f_in 0 1 | _ => f_any)
  | 8 => (match k with | 0 => f_in 0 5 | _ => f_any)
  | 25 => (match k with | 0 => f_in (-1) 5 | _ => f_any)
  | 9 => (match k with | 0 => f_to 10 | 1 => f_in 0 59 | 2 => f_in 0 60 | _ => f_any)
  | 12 => (match k with | 1 => f_to 13 | 2 => f_to 14 | 3 => f_to 15 | _ => f_any)
  | 16 => (match k with | 0 => f_to 17 | 1 => f_in 0 11 | 2 => f_in 0 12 | _ => f_any)
  | 18 => (match k with | 0 => f_to 4 | 1 => f_to 19 | _ => f_any)
  | 20 => (match k with | 0 => f_to 2 | 2 => (1, 23, 4, 0, 0) | _ => f_any)
  | 21 => (match k with | 0 => f_to 2 | 2 => f_to 22 | 3 => f_in 0 400 | _ => f_any)
  | 30 => (match k with | 1 => f_to 31 | 2 => f_to 32 | 3 => f_to 33 | 4 => f_to 34 | 5 => f_to 35 | 6 => f_in 0 1 | 7 => f_in 0 12 | 8 => f_to 36 | 9 => f_in 0 400 | 10 => f_in 0 400 | 11 => f_in 0 400 | 12 => f_in 0 400 | 13 => f_in 0 6 | 15 => f_to 37 | 16 => f_in 0 400 | 17 => f_to 38 | _ => f_any)
  | _ => f_any
def vok (G : Nat → Nat) (t : FT) (v : Value) : Prop := (t.1 = 0 → ∃ x : Int32, v = .int x ∧ t.2.2.2.1 ≤ x.toInt ∧ x.toInt ≤ t.2.2.2.2) ∧ (t.1 = 1 → ∃ a : Nat, v = .ref a ∧ (G a = t.2.1 ∨ G a = t.2.2.1)) ∧ (t.1 = 2 → v = .null ∨ ∃ a : Nat, v = .ref a ∧ (G a = t.2.1 ∨ G a = t.2.2.1))
/-- the reference's world, its part that acts change -/
def WOKl (f : Nat → Int32) : Prop := (0 ≤ (f 0).toInt ∧ (f 0).toInt ≤ 6) ∧ (0 ≤ (f 1).toInt ∧ (f 1).toInt ≤ 12) ∧ (0 ≤ (f 10).toInt ∧ (f 10).toInt ≤ 60) ∧ ∀ j, j < 12 → 0 ≤ (f (42 + 6 * j)).toInt ∧ (f (42 + 6 * j)).toInt ≤ 5
/-- n steps from i on run over a stack of t -/
def SK (f : Nat → Int32) : Nat → Nat → Nat → Prop
  | 0, _, _ => True
  | n + 1, i, t => ((f i).toInt ≤ 11 → SK f n (i + 1) (t + 1)) ∧ (¬ (f i).toInt ≤ 11 → (f i).toInt = 15 → 1 ≤ t ∧ SK f n (i + 1) t) ∧ (¬ (f i).toInt ≤ 11 → (f i).toInt ≠ 15 → 2 ≤ t ∧ SK f n (i + 1) (t - 1))
/-- its law: lines whose steps run -/
def LOK (f : Nat → Int32) : Prop := (0 ≤ (f 354).toInt ∧ (f 354).toInt ≤ 12) ∧ ∀ n : Nat, (n : Int) < (f 354).toInt → ∃ b e : Nat, (f (357 + 4 * n)).toInt = b ∧ (f (358 + 4 * n)).toInt = e ∧ b ≤ e ∧ e ≤ 400 ∧ SK (fun i => f (403 + 2 * i)) (e - b) b 0
/-- the class's law: each line's head tells where it ends -/
def CH (n : Nat) (f : Nat → Int32) : Nat → Nat → Prop
  | 0, _ => True
  | k + 1, i => i + 3 ≤ n → 0 ≤ (f (i + 2)).toInt ∧ CH n f k (min n (f (i + 2)).toInt.toNat)
def aok (r n : Nat) (f : Nat → Int32) : Prop := match r with
  | 3 => n = 400 | 11 => n = 60 | 13 => n ≤ 400 ∧ ∀ k, CH n f k 0 | 14 => n = 32 | 15 => n = 13 | 19 => n = 84 | 22 => n = 400
  | 31 => n = 2052 ∧ WOKl f ∧ LOK f | 32 => n = 1203 ∧ WOKl f ∧ LOK f | 33 => n = 1203 ∧ WOKl f ∧ LOK f | 34 => n = 354 ∧ WOKl f
  | 35 => n = 4248 ∧ ∀ j, j < 12 → WOKl (fun i => f (354 * j + i)) | 36 => n = 400 | 37 => n = 5 | 38 => n = 400 | 40 => n = 4 | _ => True
def cok (D : DD) (G : Nat → Nat) (H : Heap) (a r : Nat) : Prop :=
  (∀ ci N, ro r = some (ci, N) → ∃ V, t_OB a (D.1.1 ci) N (D.1.2 ci) H V ∧ ∀ k, k < N → vok G (ft r k) (V k)) ∧
  (∀ t, ri r = some t → ∃ (n : Nat) (f : Nat → Int32), H[a]? = some (arrCell (D.2 t) n f) ∧ n < 2147483648 ∧ aok r n f) ∧
  (∀ t n q, rr r = some (t, n, q) → ∃ g : Nat → Nat, H[a]? = some (arrV (D.2 t) n (fun j => .ref (g j))) ∧ ∀ i, i < n → G (g i) = q) ∧ a < H.size
def Ok (D : DD) (G : Nat → Nat) (H : Heap) : Prop := ∀ a r : Nat, G a = r → r ≠ 0 → cok D G H a r
/-- the places of a world's numbers that a text of the parish alone changes: houses, hearths, texts, whose the hearths are, visit, what tells -/
def vy (k : Nat) : Nat := if k < 3 then k else if k < 15 then 42 + 6 * (k - 3) else if k = 15 then 7 else 16 + 5 * (k - 16)
theorem vy_no {i : Nat} (h0 : i ≠ 0) (h1 : i ≠ 1) (h2 : i ≠ 2) (h7 : i ≠ 7) (ht : ∀ h, h < 6 → i ≠ 16 + 5 * h) (hj : ∀ j, j < 12 → i ≠ 42 + 6 * j) : ∀ k, k < 22 → i ≠ vy k := by
  intro k hk
  unfold vy
  split
  · omega
  · split
    · exact hj (k - 3) (by omega)
    · split
      · exact h7
      · exact ht (k - 16) (by omega)
theorem vy_lt {k : Nat} (hk : k < 22) : vy k < 354 := by
  unfold vy
  split
  · omega
  · split
    · omega
    · split <;> omega
/-- what stays: all but the fields (and, with 0, the arrays) of E; of a world, but with 1 in E, its numbers at vy -/
def Keep (D : DD) (G : Nat → Nat) (E : List (Nat × Nat)) (H H' : Heap) : Prop :=
  H.size ≤ H'.size ∧ (∀ q : Nat, q < H.size → G q = 0 → H'[q]? = H[q]?) ∧ ∀ q r : Nat, G q = r → r ≠ 0 →
    (∀ ci N, ro r = some (ci, N) → ∀ k, k < N → (r, k) ∉ E → fV D H' ci q k = fV D H ci q k) ∧ (ro r = none → (r, 0) ∉ E → H'[q]? = H[q]?) ∧ (r = 31 → (31, 1) ∉ E → ∀ k, k < 22 → eI H' q (vy k) = eI H q (vy k))
theorem Keep.refl {D : DD} {G : Nat → Nat} {E : List (Nat × Nat)} {H : Heap} : Keep D G E H H := ⟨Nat.le_refl _, fun _ _ _ => rfl, fun _ _ _ _ => ⟨fun _ _ _ _ _ _ => rfl, fun _ _ => rfl, fun _ _ _ _ => rfl⟩⟩
theorem Keep.trans {D : DD} {G : Nat → Nat} {E : List (Nat × Nat)} {H H1 H2 : Heap} (h : Keep D G E H H1) (k : Keep D G E H1 H2) : Keep D G E H H2 :=
  ⟨Nat.le_trans h.1 k.1, fun q h1 h2 => (k.2.1 q (Nat.lt_of_lt_of_le h1 h.1) h2).trans (h.2.1 q h1 h2), fun q r h1 h2 => ⟨fun ci N h3 j h4 h5 => ((k.2.2 q r h1 h2).1 ci N h3 j h4 h5).trans ((h.2.2 q r h1 h2).1 ci N h3 j h4 h5), fun h3 h4 => ((k.2.2 q r h1 h2).2.1 h3 h4).trans ((h.2.2 q r h1 h2).2.1 h3 h4), fun h3 h4 k9 h5 => ((k.2.2 q r h1 h2).2.2 h3 h4 k9 h5).trans ((h.2.2 q r h1 h2).2.2 h3 h4 k9 h5)⟩⟩
theorem Keep.mono {D : DD} {G : Nat → Nat} {E E' : List (Nat × Nat)} {H H1 : Heap} (h : Keep D G E H H1) (hE : ∀ x ∈ E, x ∈ E') : Keep D G E' H H1 :=
  ⟨h.1, h.2.1, fun q r h1 h2 => ⟨fun ci N h3 j h4 h5 => (h.2.2 q r h1 h2).1 ci N h3 j h4 (fun z => h5 (hE _ z)), fun h3 h4 => (h.2.2 q r h1 h2).2.1 h3 (fun z => h4 (hE _ z)), fun h3 h4 => (h.2.2 q r h1 h2).2.2 h3 (fun z => h4 (hE _ z))⟩⟩
theorem Keep.then {D : DD} {G : Nat → Nat} {E E' : List (Nat × Nat)} {H H1 H2 : Heap} (h : Keep D G E H H1) (k : Keep D G E' H1 H2) (hE : ∀ x ∈ E', x ∈ E) : Keep D G E H H2 := h.trans (k.mono hE)
theorem Keep.f {D : DD} {G : Nat → Nat} {E : List (Nat × Nat)} {H H1 : Heap} (h : Keep D G E H H1) {q r ci N k : Nat} (hq : G q = r) (hr : ro r = some (ci, N)) (hk : k < N) (hE : (r, k) ∉ E) (h0 : r ≠ 0 := by decide) : fV D H1 ci q k = fV D H ci q k := (h.2.2 q r hq h0).1 ci N hr k hk hE
theorem Keep.fI {D : DD} {G : Nat → Nat} {E : List (Nat × Nat)} {H H1 : Heap} (h : Keep D G E H H1) {q r ci N k : Nat} (hq : G q = r) (hr : ro r = some (ci, N)) (hk : k < N) (hE : (r, k) ∉ E) (h0 : r ≠ 0 := by decide) : fI D H1 ci q k = fI D H ci q k := congrArg vI (h.f hq hr hk hE h0)
theorem Keep.fR {D : DD} {G : Nat → Nat} {E : List (Nat × Nat)} {H H1 : Heap} (h : Keep D G E H H1) {q r ci N k : Nat} (hq : G q = r) (hr : ro r = some (ci, N)) (hk : k < N) (hE : (r, k) ∉ E) (h0 : r ≠ 0 := by decide) : fR D H1 ci q k = fR D H ci q k := congrArg vR (h.f hq hr hk hE h0)
theorem Keep.c {D : DD} {G : Nat → Nat} {E : List (Nat × Nat)} {H H1 : Heap} (h : Keep D G E H H1) {q r : Nat} (hq : G q = r) (hr : ro r = none) (hE : (r, 0) ∉ E) (h0 : r ≠ 0 := by decide) : H1[q]? = H[q]? := (h.2.2 q r hq h0).2.1 hr hE
theorem Keep.v {D : DD} {G : Nat → Nat} {E : List (Nat × Nat)} {H H1 : Heap} (h : Keep D G E H H1) {q : Nat} (hq : G q = 31) (hE : (31, 1) ∉ E) : ∀ k, k < 22 → eI H1 q (vy k) = eI H q (vy k) := (h.2.2 q 31 hq (by decide)).2.2 rfl hE
theorem eV_of {H H1 : Heap} {q : Nat} (h : H1[q]? = H[q]?) (i : Nat) : eV H1 q i = eV H q i := by unfold eV; rw [h]
theorem fV_of {D : DD} {H H1 : Heap} {q : Nat} (h : H1[q]? = H[q]?) (ci k : Nat) : fV D H1 ci q k = fV D H ci q k := by unfold fV; rw [h]
/-! the words of texts, byte by byte -/
def w_tax : List Nat := [116, 97, 120]
def w_free : List Nat := [102, 114, 101, 101]
def w_find : List Nat := [102, 105, 110, 100]
def w_if : List Nat := [105, 102]
def w_not : List Nat := [110, 111, 116]
def w_and : List Nat := [97, 110, 100]
def w_or : List Nat := [111, 114]
def w_paper : List Nat := [112, 97, 112, 101, 114]
def w_fire : List Nat := [102, 105, 114, 101]
def w_oven : List Nat := [111, 118, 101, 110]
def w_forge : List Nat := [102, 111, 114, 103, 101]
def w_pot : List Nat := [112, 111, 116]
def w_house : List Nat := [104, 111, 117, 115, 101]
def w_flue : List Nat := [102, 108, 117, 101]
def w_warm : List Nat := [119, 97, 114, 109]
def w_hearths : List Nat := [104, 101, 97, 114, 116, 104, 115]
def w_windows : List Nat := [119, 105, 110, 100, 111, 119, 115]
def w_quarter : List Nat := [113, 117, 97, 114, 116, 101, 114]
def w_tells : List Nat := [116, 101, 108, 108, 115]
def w_sees : List Nat := [115, 101, 101, 115]
def w_hearth : List Nat := [104, 101, 97, 114, 116, 104]
def w_of : List Nat := [111, 102]
def w_wall : List Nat := [119, 97, 108, 108]
def w_rate : List Nat := [114, 97, 116, 101]
def w_fine : List Nat := [102, 105, 110, 101]
def w_visit : List Nat := [118, 105, 115, 105, 116]
def w_bed : List Nat := [98, 101, 100]
def lw_wb : List (String × List Nat) := [("tax", w_tax), ("free", w_free), ("find", w_find), ("if", w_if), ("not", w_not), ("and", w_and), ("or", w_or), ("paper", w_paper), ("fire", w_fire), ("oven", w_oven), ("forge", w_forge), ("pot", w_pot), ("house", w_house), ("flue", w_flue), ("warm", w_warm), ("hearths", w_hearths), ("windows", w_windows), ("quarter", w_quarter), ("tells", w_tells), ("sees", w_sees), ("hearth", w_hearth), ("of", w_of), ("wall", w_wall), ("rate", w_rate), ("fine", w_fine), ("visit", w_visit), ("bed", w_bed)]
/-! what the start lays down for good: statics of the JDK, string constants, words that a throw wants -/
def BytU (D : DD) (G : Nat → Nat) (U : State) (H : Heap) (b n : Nat) : Prop := G b = 0 ∧ n < 2147483648 ∧ ∃ cell : Cell, H[b]? = some cell ∧ U.isArrayOf cell .byte ∧ cell.vm ≠ .unknown ∧ (n ≤ cell.slots.size ∧ cell.slots.size.toInt32 = Int32.ofNat n) ∧ ∀ j, j < n → ∃ x : Int32, cell.slots[j]? = some (.int x) ∧ x.toInt = ((D.1.2 (100 + 2 * j) b : Nat) : Int) ∧ D.1.2 (100 + 2 * j) b ≤ 127
def StrU (D : DD) (G : Nat → Nat) (U : State) (H : Heap) (a n : Nat) : Prop := va_O "java/lang/String" a (fun q => G q ≠ 0) U H ∧ va_OF "java/lang/String" "coder" "B" (.int 0) a (fun q => G q ≠ 0) U H ∧ ∃ b : Nat, va_OF "java/lang/String" "value" "[B" (.ref b) a (fun q => G q ≠ 0) U H ∧ D.1.2 98 b = n + 1 ∧ ∀ j, j < n → D.1.2 (101 + 2 * j) a = D.1.2 (100 + 2 * j) b
def lw_isc (w : Cond) : Bool := match w with | .castable _ _ => true | .declares _ => true | .methodLinkNest _ _ _ _ => true | _ => false
def lw_cast : List Cond := lw_tbl.filter lw_isc
def lw_ncs : List (String × String) := [("java/util/NoSuchElementException", "java/lang/IndexOutOfBoundsException"), ("java/lang/IllegalStateException", "java/lang/IndexOutOfBoundsException"), ("java/lang/IllegalArgumentException", "java/lang/IndexOutOfBoundsException"), ("java/lang/UnsupportedOperationException", "java/lang/IllegalArgumentException")]
def lw_strs : List (String × Nat × String × Nat) := [(RX4, 69, "tax", 3), (RX4, 71, "free", 4), (RX4, 73, "find", 4), (RX4, 59, "if", 2), (RX4, 82, "not", 3), (RX4, 97, "paper", 5), (RX4, 99, "fire", 4), (RX4, 101, "oven", 4), (RX4, 103, "forge", 5), (RX4, 105, "pot", 3), (RX4, 116, "house", 5), (RX4, 118, "flue", 4), (RX4, 120, "warm", 4), (RX4, 122, "hearths", 7), (RX4, 124, "windows", 7), (RX4, 126, "quarter", 7), (RX4, 78, "and", 3), (RX4, 80, "or", 2), (RX6, 19, "house", 5), (RX6, 66, "windows", 7), (RX6, 76, "paper", 5), (RX6, 85, "tells", 5), (RX6, 31, "sees", 4), (RX6, 36, "hearth", 6), (RX6, 131, "fire", 4), (RX6, 133, "oven", 4), (RX6, 135, "forge", 5), (RX6, 137, "pot", 3), (RX6, 106, "of", 2), (RX6, 116, "flue", 4), (RX6, 120, "warm", 4), (RX6, 124, "wall", 4), (RX6, 154, "rate", 4), (RX6, 158, "fine", 4), (RX6, 162, "visit", 5), (RX6, 166, "bed", 3), (RX6, 170, "quarter", 7), (RX11, 90, "the text of the parish is wrong", 31), (RX11, 100, "there are 12 texts", 18), (RX11, 110, "the text of the law is wrong", 28), (RX11, 349, "there is no such house", 22), (RX11, 170, "a house has no such thing", 25), (RX11, 351, "there is no such hearth", 23), (RX11, 206, "a hearth has no such thing", 26), (RX11, 210, "it cannot be walled up", 22), (RX11, 216, "it is open", 10), (RX11, 221, "it cannot be hidden", 19), (RX11, 225, "there is no such flue", 21), (RX11, 353, "the number is none", 18), (RX11, 245, "there is no such tower", 22), (RX11, 359, "the tape does not tell flues", 28), (RX11, 329, "a row of the log has no such thing", 34), (RX12, 153, "house", 5), (RX12, 112, "windows", 7), (RX12, 118, "paper", 5), (RX12, 123, "tells", 5), (RX12, 159, "sees", 4), (RX12, 164, "hearth", 6), (RX12, 125, "fire", 4), (RX12, 127, "oven", 4), (RX12, 129, "forge", 5), (RX12, 131, "pot", 3), (RX12, 136, "of", 2), (RX12, 147, "flue", 4), (RX12, 149, "warm", 4), (RX12, 151, "wall", 4), (RX12, 169, "rate", 4), (RX12, 174, "fine", 4), (RX12, 176, "visit", 5), (RX12, 178, "bed", 3), (RX12, 180, "quarter", 7), (RX12, 221, "tax", 3), (RX12, 223, "free", 4), (RX12, 225, "find", 4), (RX12, 227, "if", 2), (RX12, 203, "not", 3), (RX12, 189, "hearths", 7), (RX12, 214, "and", 3), (RX12, 219, "or", 2)]
def Zs (D : DD) (G : Nat → Nat) (U : State) (H : Heap) : Prop :=
  va_Z "java/lang/String" "COMPACT_STRINGS" "Z" (.int 1) (fun q => G q ≠ 0) U H ∧ va_Zq "jdk/internal/util/Preconditions" "SIOOBE_FORMATTER" "Ljava/util/function/BiFunction;" (fun q => G q ≠ 0) U H ∧
  vx_Zq Bundle.tN "UNASSIGNED_STACK" Bundle.steD (fun q => G q ≠ 0) U H ∧ vx_Zq Bundle.tN "SUPPRESSED_SENTINEL" Bundle.listD (fun q => G q ≠ 0) U H ∧
  ((∀ w ∈ lw_cast, va_Nw w U) ∧ ∀ q ∈ lw_ncs, va_Nc q.1 q.2 U) ∧ (∀ a n, D.1.2 99 a = n + 1 → StrU D G U H a n) ∧ (∀ b n, D.1.2 98 b = n + 1 → BytU D G U H b n) ∧ ∀ x ∈ lw_strs, ∃ a, vk_R x.1 x.2.1 x.2.2.1 a U ∧ D.1.2 99 a = x.2.2.2 + 1 ∧ ∀ w, (x.2.2.1, w) ∈ lw_wb → ∀ j, j < w.length → D.1.2 (101 + 2 * j) a = w.getD j 0
theorem BytU.move {D : DD} {G : Nat → Nat} {u U : State} {H H' : Heap} {b n : Nat} (h : BytU D G u H b n) (hvm : u.vm.Alike U.vm) (hq : ∀ q : Nat, q < H.size → G q = 0 → H'[q]? = H[q]?) : BytU D G U H' b n := by
  obtain ⟨h5, h3, cell, h6, h7, h8⟩ := h
  exact ⟨h5, h3, cell, by rw [hq b (Array.getElem?_eq_some_iff.mp h6).1 h5]; exact h6, State.isArrayOf_alike hvm h7, h8⟩
theorem StrU.move {D : DD} {G : Nat → Nat} {u U : State} {H H' : Heap} {a n : Nat} (h : StrU D G u H a n) (hvm : u.vm.Alike U.vm) (hq : ∀ q : Nat, q < H.size → G q = 0 → H'[q]? = H[q]?) : StrU D G U H' a n := by
  have hq' : ∀ a : Nat, a < H.size → ¬ G a ≠ 0 → H'[a]? = H[a]? := fun a h1 h2 => hq a h1 (Classical.not_not.mp h2)
  obtain ⟨h1, h2, b, h4, h5⟩ := h
  exact ⟨(h1.kept hq').moved hvm, (h2.kept hq').moved hvm, b, (h4.kept hq').moved hvm, h5⟩
theorem Zs.move {D : DD} {G : Nat → Nat} {s U : State} {H H' : Heap} (h : Zs D G s H) (hW : s.WarmedH U.vm) (hq : ∀ q : Nat, q < H.size → G q = 0 → H'[q]? = H[q]?) : Zs D G U H' := by
  have hq' : ∀ a : Nat, a < H.size → ¬ G a ≠ 0 → H'[a]? = H[a]? := fun a h1 h2 => hq a h1 (Classical.not_not.mp h2)
  obtain ⟨h1, h2, h3, h4, h5, h6, h6b, h7⟩ := h
  refine ⟨(h1.kept hq').moved hW.alike, (h2.kept hq').moved hW.alike, (h3.kept hq').moved hW.alike, (h4.kept hq').moved hW.alike, ⟨fun w hw => ?_, fun q hq9 => (h5.2 q hq9).moved hW.alike⟩, fun a n h => (h6 a n h).move hW.alike hq, fun b n h => (h6b b n h).move hW.alike hq, fun x hx => ?_⟩
  · have h9 := h5.1 w hw
    have hc := (List.mem_filter.mp hw).2
    cases w <;> first | (simp [lw_isc] at hc; done) | exact va_Nw.warmC hW h9 | exact va_Nw.warmD hW h9 | exact va_Nw.warmM hW h9
  · obtain ⟨a, h8, h9⟩ := h7 x hx
    exact ⟨a, vk_R.warm hW h8, h9⟩
/-! what Ok says of reads -/
section Reads
variable {D : DD} {G : Nat → Nat} {H : Heap}
theorem ob_V {a ci N k : Nat} {V : Nat → Value} (h : t_OB a (D.1.1 ci) N (D.1.2 ci) H V) (hk : k < N) : fV D H ci a k = V k := by
  obtain ⟨cell, h1, -, -, h4⟩ := h
  unfold fV
  rw [h1]
  simp [h4 k hk]
theorem Ok.ob {a r ci N : Nat} (hO : Ok D G H) (ha : G a = r) (hr : ro r = some (ci, N)) (h0 : r ≠ 0 := by decide) : t_OB a (D.1.1 ci) N (D.1.2 ci) H (fV D H ci a) ∧ ∀ k, k < N → vok G (ft r k) (fV D H ci a k) := by
  obtain ⟨V, h1, h2⟩ := (hO a r ha h0).1 ci N hr
  exact ⟨h1.to (fun k hk => (ob_V h1 hk).symm), fun k hk => by rw [ob_V h1 hk]; exact h2 k hk⟩
theorem Ok.fi {a r ci N k : Nat} (hO : Ok D G H) (ha : G a = r) (hr : ro r = some (ci, N)) (hk : k < N) (ht : (ft r k).1 = 0) (h0 : r ≠ 0 := by decide) : fV D H ci a k = .int (fI D H ci a k) ∧ (ft r k).2.2.2.1 ≤ (fI D H ci a k).toInt ∧ (fI D H ci a k).toInt ≤ (ft r k).2.2.2.2 := by
  obtain ⟨x, h1, h2⟩ := ((hO.ob ha hr h0).2 k hk).1 ht
  unfold fI
  rw [h1]
  exact ⟨rfl, h2⟩
theorem Ok.rng {a r ci N k : Nat} {lo hi : Int} (hO : Ok D G H) (ha : G a = r) (hr : ro r = some (ci, N)) (hk : k < N) (ht : ft r k = (0, 0, 0, lo, hi)) (h0 : r ≠ 0 := by decide) : lo ≤ (fI D H ci a k).toInt ∧ (fI D H ci a k).toInt ≤ hi := by
  have h := (hO.fi ha hr hk (by rw [ht]) h0).2
  rw [ht] at h
  exact h
theorem Ok.fr {a r ci N k q1 q2 : Nat} {x y : Int} (hO : Ok D G H) (ha : G a = r) (hr : ro r = some (ci, N)) (hk : k < N) (ht : ft r k = (1, q1, q2, x, y)) (h0 : r ≠ 0 := by decide) : fV D H ci a k = .ref (fR D H ci a k) ∧ (G (fR D H ci a k) = q1 ∨ G (fR D H ci a k) = q2) := by
  obtain ⟨b, h1, h2⟩ := ((hO.ob ha hr h0).2 k hk).2.1 (by rw [ht])
  unfold fR
  rw [h1]
  rw [ht] at h2
  exact ⟨rfl, h2⟩
theorem Ok.rol {a r ci N k q : Nat} {x y : Int} (hO : Ok D G H) (ha : G a = r) (hr : ro r = some (ci, N)) (hk : k < N) (ht : ft r k = (1, q, q, x, y)) (h0 : r ≠ 0 := by decide) : G (fR D H ci a k) = q := (hO.fr ha hr hk ht h0).2.elim id id
theorem arr_eI {a n : Nat} {cA : ClassId} {f : Nat → Int32} (h : H[a]? = some (arrCell cA n f)) {i : Nat} (hi : i < n) : eV H a i = .int (f i) ∧ eI H a i = f i := by
  have e1 : eV H a i = .int (f i) := by
    unfold eV
    rw [h]
    show ((arrCell cA n f).slots[i]?).getD .null = _
    rw [arr_read _ _ hi]
    rfl
  exact ⟨e1, by unfold eI; rw [e1]; rfl⟩
theorem arr_aN {a n : Nat} {cA : ClassId} {f : Nat → Int32} (h : H[a]? = some (arrCell cA n f)) : aN H a = n := by
  unfold aN
  rw [h]
  exact arr_size _ _ _
theorem arrV_eR {a n : Nat} {cA : ClassId} {g : Nat → Nat} (h : H[a]? = some (arrV cA n (fun j => .ref (g j)))) {i : Nat} (hi : i < n) : eV H a i = .ref (g i) ∧ eR H a i = g i := by
  have e1 : eV H a i = .ref (g i) := by
    unfold eV
    rw [h]
    show ((arrV cA n _).slots[i]?).getD .null = _
    rw [arrV_read _ _ hi]
    rfl
  exact ⟨e1, by unfold eR; rw [e1]; rfl⟩
/-- an array of numbers, by the numbers that it holds -/
theorem Ok.ia {a r t : Nat} (hO : Ok D G H) (ha : G a = r) (hr : ri r = some t) (h0 : r ≠ 0 := by decide) : ∃ f : Nat → Int32, H[a]? = some (arrCell (D.2 t) (aN H a) f) ∧ aN H a < 2147483648 ∧ aok r (aN H a) f ∧ ∀ i, i < aN H a → eI H a i = f i := by
  obtain ⟨n, f, h1, h2, h3⟩ := (hO a r ha h0).2.1 t hr
  have e := arr_aN h1
  rw [e]
  exact ⟨f, h1, h2, h3, fun i hi => (arr_eI h1 hi).2⟩
theorem Ok.ra {a r t n q : Nat} (hO : Ok D G H) (ha : G a = r) (hr : rr r = some (t, n, q)) (h0 : r ≠ 0 := by decide) : ∃ g : Nat → Nat, H[a]? = some (arrV (D.2 t) n (fun j => .ref (g j))) ∧ ∀ i, i < n → eR H a i = g i ∧ G (eR H a i) = q := by
  obtain ⟨g, h1, h2⟩ := (hO a r ha h0).2.2.1 t n q hr
  refine ⟨g, h1, fun i hi => ?_⟩
  have e := (arrV_eR h1 hi).2
  exact ⟨e, by rw [e]; exact h2 i hi⟩
theorem Ok.role {a r t n q i : Nat} (hO : Ok D G H) (ha : G a = r) (hr : rr r = some (t, n, q)) (hi : i < n) (h0 : r ≠ 0 := by decide) : G (eR H a i) = q := by
  obtain ⟨g, -, h⟩ := hO.ra ha hr h0
  exact (h i hi).2
end Reads
