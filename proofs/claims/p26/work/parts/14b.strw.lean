theorem ks_X4_69 : (RX4, 69, "tax", 3) ∈ lw_strs := by decide +kernel
theorem ks_X4_71 : (RX4, 71, "free", 4) ∈ lw_strs := by decide +kernel
theorem ks_X4_73 : (RX4, 73, "find", 4) ∈ lw_strs := by decide +kernel
theorem ks_X4_59 : (RX4, 59, "if", 2) ∈ lw_strs := by decide +kernel
theorem ks_X4_82 : (RX4, 82, "not", 3) ∈ lw_strs := by decide +kernel
theorem ks_X4_97 : (RX4, 97, "paper", 5) ∈ lw_strs := by decide +kernel
theorem ks_X4_99 : (RX4, 99, "fire", 4) ∈ lw_strs := by decide +kernel
theorem ks_X4_101 : (RX4, 101, "oven", 4) ∈ lw_strs := by decide +kernel
theorem ks_X4_103 : (RX4, 103, "forge", 5) ∈ lw_strs := by decide +kernel
theorem ks_X4_105 : (RX4, 105, "pot", 3) ∈ lw_strs := by decide +kernel
theorem ks_X4_116 : (RX4, 116, "house", 5) ∈ lw_strs := by decide +kernel
theorem ks_X4_118 : (RX4, 118, "flue", 4) ∈ lw_strs := by decide +kernel
theorem ks_X4_120 : (RX4, 120, "warm", 4) ∈ lw_strs := by decide +kernel
theorem ks_X4_122 : (RX4, 122, "hearths", 7) ∈ lw_strs := by decide +kernel
theorem ks_X4_124 : (RX4, 124, "windows", 7) ∈ lw_strs := by decide +kernel
theorem ks_X4_126 : (RX4, 126, "quarter", 7) ∈ lw_strs := by decide +kernel
theorem ks_X4_78 : (RX4, 78, "and", 3) ∈ lw_strs := by decide +kernel
theorem ks_X4_80 : (RX4, 80, "or", 2) ∈ lw_strs := by decide +kernel
theorem ks_X6_19 : (RX6, 19, "house", 5) ∈ lw_strs := by decide +kernel
theorem ks_X6_66 : (RX6, 66, "windows", 7) ∈ lw_strs := by decide +kernel
theorem ks_X6_76 : (RX6, 76, "paper", 5) ∈ lw_strs := by decide +kernel
theorem ks_X6_85 : (RX6, 85, "tells", 5) ∈ lw_strs := by decide +kernel
theorem ks_X6_31 : (RX6, 31, "sees", 4) ∈ lw_strs := by decide +kernel
theorem ks_X6_36 : (RX6, 36, "hearth", 6) ∈ lw_strs := by decide +kernel
theorem ks_X6_131 : (RX6, 131, "fire", 4) ∈ lw_strs := by decide +kernel
theorem ks_X6_133 : (RX6, 133, "oven", 4) ∈ lw_strs := by decide +kernel
theorem ks_X6_135 : (RX6, 135, "forge", 5) ∈ lw_strs := by decide +kernel
theorem ks_X6_137 : (RX6, 137, "pot", 3) ∈ lw_strs := by decide +kernel
theorem ks_X6_106 : (RX6, 106, "of", 2) ∈ lw_strs := by decide +kernel
theorem ks_X6_116 : (RX6, 116, "flue", 4) ∈ lw_strs := by decide +kernel
theorem ks_X6_120 : (RX6, 120, "warm", 4) ∈ lw_strs := by decide +kernel
theorem ks_X6_124 : (RX6, 124, "wall", 4) ∈ lw_strs := by decide +kernel
theorem ks_X6_154 : (RX6, 154, "rate", 4) ∈ lw_strs := by decide +kernel
theorem ks_X6_158 : (RX6, 158, "fine", 4) ∈ lw_strs := by decide +kernel
theorem ks_X6_162 : (RX6, 162, "visit", 5) ∈ lw_strs := by decide +kernel
theorem ks_X6_166 : (RX6, 166, "bed", 3) ∈ lw_strs := by decide +kernel
theorem ks_X6_170 : (RX6, 170, "quarter", 7) ∈ lw_strs := by decide +kernel
theorem ks_X11_90 : (RX11, 90, "the text of the parish is wrong", 31) ∈ lw_strs := by decide +kernel
theorem ks_X11_100 : (RX11, 100, "there are 12 texts", 18) ∈ lw_strs := by decide +kernel
theorem ks_X11_110 : (RX11, 110, "the text of the law is wrong", 28) ∈ lw_strs := by decide +kernel
theorem ks_X11_349 : (RX11, 349, "there is no such house", 22) ∈ lw_strs := by decide +kernel
theorem ks_X11_170 : (RX11, 170, "a house has no such thing", 25) ∈ lw_strs := by decide +kernel
theorem ks_X11_351 : (RX11, 351, "there is no such hearth", 23) ∈ lw_strs := by decide +kernel
theorem ks_X11_206 : (RX11, 206, "a hearth has no such thing", 26) ∈ lw_strs := by decide +kernel
theorem ks_X11_210 : (RX11, 210, "it cannot be walled up", 22) ∈ lw_strs := by decide +kernel
theorem ks_X11_216 : (RX11, 216, "it is open", 10) ∈ lw_strs := by decide +kernel
theorem ks_X11_221 : (RX11, 221, "it cannot be hidden", 19) ∈ lw_strs := by decide +kernel
theorem ks_X11_225 : (RX11, 225, "there is no such flue", 21) ∈ lw_strs := by decide +kernel
theorem ks_X11_353 : (RX11, 353, "the number is none", 18) ∈ lw_strs := by decide +kernel
theorem ks_X11_245 : (RX11, 245, "there is no such tower", 22) ∈ lw_strs := by decide +kernel
theorem ks_X11_359 : (RX11, 359, "the tape does not tell flues", 28) ∈ lw_strs := by decide +kernel
theorem ks_X11_329 : (RX11, 329, "a row of the log has no such thing", 34) ∈ lw_strs := by decide +kernel
theorem ks_X12_153 : (RX12, 153, "house", 5) ∈ lw_strs := by decide +kernel
theorem ks_X12_112 : (RX12, 112, "windows", 7) ∈ lw_strs := by decide +kernel
theorem ks_X12_118 : (RX12, 118, "paper", 5) ∈ lw_strs := by decide +kernel
theorem ks_X12_123 : (RX12, 123, "tells", 5) ∈ lw_strs := by decide +kernel
theorem ks_X12_159 : (RX12, 159, "sees", 4) ∈ lw_strs := by decide +kernel
theorem ks_X12_164 : (RX12, 164, "hearth", 6) ∈ lw_strs := by decide +kernel
theorem ks_X12_125 : (RX12, 125, "fire", 4) ∈ lw_strs := by decide +kernel
theorem ks_X12_127 : (RX12, 127, "oven", 4) ∈ lw_strs := by decide +kernel
theorem ks_X12_129 : (RX12, 129, "forge", 5) ∈ lw_strs := by decide +kernel
theorem ks_X12_131 : (RX12, 131, "pot", 3) ∈ lw_strs := by decide +kernel
theorem ks_X12_136 : (RX12, 136, "of", 2) ∈ lw_strs := by decide +kernel
theorem ks_X12_147 : (RX12, 147, "flue", 4) ∈ lw_strs := by decide +kernel
theorem ks_X12_149 : (RX12, 149, "warm", 4) ∈ lw_strs := by decide +kernel
theorem ks_X12_151 : (RX12, 151, "wall", 4) ∈ lw_strs := by decide +kernel
theorem ks_X12_169 : (RX12, 169, "rate", 4) ∈ lw_strs := by decide +kernel
theorem ks_X12_174 : (RX12, 174, "fine", 4) ∈ lw_strs := by decide +kernel
theorem ks_X12_176 : (RX12, 176, "visit", 5) ∈ lw_strs := by decide +kernel
theorem ks_X12_178 : (RX12, 178, "bed", 3) ∈ lw_strs := by decide +kernel
theorem ks_X12_180 : (RX12, 180, "quarter", 7) ∈ lw_strs := by decide +kernel
theorem ks_X12_221 : (RX12, 221, "tax", 3) ∈ lw_strs := by decide +kernel
theorem ks_X12_223 : (RX12, 223, "free", 4) ∈ lw_strs := by decide +kernel
theorem ks_X12_225 : (RX12, 225, "find", 4) ∈ lw_strs := by decide +kernel
theorem ks_X12_227 : (RX12, 227, "if", 2) ∈ lw_strs := by decide +kernel
theorem ks_X12_203 : (RX12, 203, "not", 3) ∈ lw_strs := by decide +kernel
theorem ks_X12_189 : (RX12, 189, "hearths", 7) ∈ lw_strs := by decide +kernel
theorem ks_X12_214 : (RX12, 214, "and", 3) ∈ lw_strs := by decide +kernel
theorem ks_X12_219 : (RX12, 219, "or", 2) ∈ lw_strs := by decide +kernel
/-! a word of the start, by its bytes -/
def Wc (D : DD) (a n : Nat) (w : List Nat) : Prop := w.length = n ∧ ∀ j, j < n → D.1.2 (101 + 2 * j) a = w.getD j 0 ∧ w.getD j 0 ≤ 127
theorem Wc.of {D : DD} {a n : Nat} {tx : String} {w : List Nat} (h : ∀ w, (tx, w) ∈ lw_wb → ∀ j, j < w.length → D.1.2 (101 + 2 * j) a = w.getD j 0) (hk : (tx, w) ∈ lw_wb ∧ w.length = n ∧ (∀ j, j < n → w.getD j 0 ≤ 127)) : Wc D a n w := ⟨hk.2.1, fun j hj => ⟨h w hk.1 j (by omega), hk.2.2 j hj⟩⟩
theorem kw_tax : ("tax", w_tax) ∈ lw_wb ∧ w_tax.length = 3 ∧ (∀ j, j < 3 → w_tax.getD j 0 ≤ 127) := by decide +kernel
theorem kw_free : ("free", w_free) ∈ lw_wb ∧ w_free.length = 4 ∧ (∀ j, j < 4 → w_free.getD j 0 ≤ 127) := by decide +kernel
theorem kw_find : ("find", w_find) ∈ lw_wb ∧ w_find.length = 4 ∧ (∀ j, j < 4 → w_find.getD j 0 ≤ 127) := by decide +kernel
theorem kw_if : ("if", w_if) ∈ lw_wb ∧ w_if.length = 2 ∧ (∀ j, j < 2 → w_if.getD j 0 ≤ 127) := by decide +kernel
theorem kw_not : ("not", w_not) ∈ lw_wb ∧ w_not.length = 3 ∧ (∀ j, j < 3 → w_not.getD j 0 ≤ 127) := by decide +kernel
theorem kw_and : ("and", w_and) ∈ lw_wb ∧ w_and.length = 3 ∧ (∀ j, j < 3 → w_and.getD j 0 ≤ 127) := by decide +kernel
theorem kw_or : ("or", w_or) ∈ lw_wb ∧ w_or.length = 2 ∧ (∀ j, j < 2 → w_or.getD j 0 ≤ 127) := by decide +kernel
theorem kw_paper : ("paper", w_paper) ∈ lw_wb ∧ w_paper.length = 5 ∧ (∀ j, j < 5 → w_paper.getD j 0 ≤ 127) := by decide +kernel
theorem kw_fire : ("fire", w_fire) ∈ lw_wb ∧ w_fire.length = 4 ∧ (∀ j, j < 4 → w_fire.getD j 0 ≤ 127) := by decide +kernel
theorem kw_oven : ("oven", w_oven) ∈ lw_wb ∧ w_oven.length = 4 ∧ (∀ j, j < 4 → w_oven.getD j 0 ≤ 127) := by decide +kernel
theorem kw_forge : ("forge", w_forge) ∈ lw_wb ∧ w_forge.length = 5 ∧ (∀ j, j < 5 → w_forge.getD j 0 ≤ 127) := by decide +kernel
theorem kw_pot : ("pot", w_pot) ∈ lw_wb ∧ w_pot.length = 3 ∧ (∀ j, j < 3 → w_pot.getD j 0 ≤ 127) := by decide +kernel
theorem kw_house : ("house", w_house) ∈ lw_wb ∧ w_house.length = 5 ∧ (∀ j, j < 5 → w_house.getD j 0 ≤ 127) := by decide +kernel
theorem kw_flue : ("flue", w_flue) ∈ lw_wb ∧ w_flue.length = 4 ∧ (∀ j, j < 4 → w_flue.getD j 0 ≤ 127) := by decide +kernel
theorem kw_warm : ("warm", w_warm) ∈ lw_wb ∧ w_warm.length = 4 ∧ (∀ j, j < 4 → w_warm.getD j 0 ≤ 127) := by decide +kernel
theorem kw_hearths : ("hearths", w_hearths) ∈ lw_wb ∧ w_hearths.length = 7 ∧ (∀ j, j < 7 → w_hearths.getD j 0 ≤ 127) := by decide +kernel
theorem kw_windows : ("windows", w_windows) ∈ lw_wb ∧ w_windows.length = 7 ∧ (∀ j, j < 7 → w_windows.getD j 0 ≤ 127) := by decide +kernel
theorem kw_quarter : ("quarter", w_quarter) ∈ lw_wb ∧ w_quarter.length = 7 ∧ (∀ j, j < 7 → w_quarter.getD j 0 ≤ 127) := by decide +kernel
theorem kw_tells : ("tells", w_tells) ∈ lw_wb ∧ w_tells.length = 5 ∧ (∀ j, j < 5 → w_tells.getD j 0 ≤ 127) := by decide +kernel
theorem kw_sees : ("sees", w_sees) ∈ lw_wb ∧ w_sees.length = 4 ∧ (∀ j, j < 4 → w_sees.getD j 0 ≤ 127) := by decide +kernel
theorem kw_hearth : ("hearth", w_hearth) ∈ lw_wb ∧ w_hearth.length = 6 ∧ (∀ j, j < 6 → w_hearth.getD j 0 ≤ 127) := by decide +kernel
theorem kw_of : ("of", w_of) ∈ lw_wb ∧ w_of.length = 2 ∧ (∀ j, j < 2 → w_of.getD j 0 ≤ 127) := by decide +kernel
theorem kw_wall : ("wall", w_wall) ∈ lw_wb ∧ w_wall.length = 4 ∧ (∀ j, j < 4 → w_wall.getD j 0 ≤ 127) := by decide +kernel
theorem kw_rate : ("rate", w_rate) ∈ lw_wb ∧ w_rate.length = 4 ∧ (∀ j, j < 4 → w_rate.getD j 0 ≤ 127) := by decide +kernel
theorem kw_fine : ("fine", w_fine) ∈ lw_wb ∧ w_fine.length = 4 ∧ (∀ j, j < 4 → w_fine.getD j 0 ≤ 127) := by decide +kernel
theorem kw_visit : ("visit", w_visit) ∈ lw_wb ∧ w_visit.length = 5 ∧ (∀ j, j < 5 → w_visit.getD j 0 ≤ 127) := by decide +kernel
theorem kw_bed : ("bed", w_bed) ∈ lw_wb ∧ w_bed.length = 3 ∧ (∀ j, j < 3 → w_bed.getD j 0 ≤ 127) := by decide +kernel
