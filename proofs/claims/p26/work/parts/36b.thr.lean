theorem ka_of {L : List Cond} (h : L.all (fun w => decide (w ∈ lw_tbl) && (goodWord w || lw_isc w) && vx_ot w) = true) : ∀ w ∈ L, (w ∈ lw_good ∨ w ∈ lw_cast) ∧ vx_ot w = true := by
  intro w hw
  have h1 := List.all_eq_true.mp h w hw
  simp only [Bool.and_eq_true, Bool.or_eq_true, decide_eq_true_eq] at h1
  obtain ⟨⟨h2, h3⟩, h4⟩ := h1
  refine ⟨?_, h4⟩
  rcases h3 with h3 | h3
  · exact Or.inl (List.mem_filter.mpr ⟨h2, h3⟩)
  · exact Or.inr (List.mem_filter.mpr ⟨h2, h3⟩)
def thr_names : List String := ["java/lang/RuntimeException", "java/lang/Exception"]

theorem kI_IAE : Cond.initialized "java/lang/IllegalArgumentException" ∈ lw_good := mem_one 131 (by decide +kernel)
theorem kI_UOE : Cond.initialized "java/lang/UnsupportedOperationException" ∈ lw_good := mem_one 132 (by decide +kernel)
theorem kI_IOB : Cond.initialized "java/lang/IndexOutOfBoundsException" ∈ lw_good := mem_one 136 (by decide +kernel)
theorem kI_NSE : Cond.initialized "java/util/NoSuchElementException" ∈ lw_good := mem_one 137 (by decide +kernel)
theorem kI_ISE : Cond.initialized "java/lang/IllegalStateException" ∈ lw_good := mem_one 138 (by decide +kernel)
theorem kL_X11_88 : Cond.classLink RX11 88 "java/lang/IllegalArgumentException" ∈ lw_good := mem_one 890 (by decide +kernel)
theorem kL_X11_98 : Cond.classLink RX11 98 "java/lang/UnsupportedOperationException" ∈ lw_good := mem_one 960 (by decide +kernel)
theorem kL_X11_223 : Cond.classLink RX11 223 "java/lang/IndexOutOfBoundsException" ∈ lw_good := mem_one 1039 (by decide +kernel)
theorem kL_X11_168 : Cond.classLink RX11 168 "java/util/NoSuchElementException" ∈ lw_good := mem_one 1072 (by decide +kernel)
theorem kL_X11_208 : Cond.classLink RX11 208 "java/lang/IllegalStateException" ∈ lw_good := mem_one 1110 (by decide +kernel)
theorem kf_IAE : Bundle.fit "java/lang/IllegalArgumentException" = true ∧ ∀ n ∈ thr_names, Bundle.fit n = true := by decide +kernel
theorem kf_UOE : Bundle.fit "java/lang/UnsupportedOperationException" = true ∧ ∀ n ∈ thr_names, Bundle.fit n = true := by decide +kernel
theorem kf_IOB : Bundle.fit "java/lang/IndexOutOfBoundsException" = true ∧ ∀ n ∈ thr_names, Bundle.fit n = true := by decide +kernel
theorem kf_NSE : Bundle.fit "java/util/NoSuchElementException" = true ∧ ∀ n ∈ thr_names, Bundle.fit n = true := by decide +kernel
theorem kf_ISE : Bundle.fit "java/lang/IllegalStateException" = true ∧ ∀ n ∈ thr_names, Bundle.fit n = true := by decide +kernel
theorem ka_X11_92 : ∀ w ∈ vx_atS RX11 92 "java/lang/IllegalArgumentException" thr_names, (w ∈ lw_good ∨ w ∈ lw_cast) ∧ vx_ot w = true := ka_of (by decide +kernel)
theorem ka_X11_102 : ∀ w ∈ vx_atS RX11 102 "java/lang/UnsupportedOperationException" thr_names, (w ∈ lw_good ∨ w ∈ lw_cast) ∧ vx_ot w = true := ka_of (by decide +kernel)
theorem ka_X11_227 : ∀ w ∈ vx_atS RX11 227 "java/lang/IndexOutOfBoundsException" thr_names, (w ∈ lw_good ∨ w ∈ lw_cast) ∧ vx_ot w = true := ka_of (by decide +kernel)
theorem ka_X11_212 : ∀ w ∈ vx_atS RX11 212 "java/lang/IllegalStateException" thr_names, (w ∈ lw_good ∨ w ∈ lw_cast) ∧ vx_ot w = true := ka_of (by decide +kernel)
