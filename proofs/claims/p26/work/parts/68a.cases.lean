theorem kw_131 : ∀ w ∈ ([.methodLink RL 131 yL_parish, .static yL_parish, .initialized yL_parish.cls, .codeWith yL_parish cL_parish 3 (some .int) [(0, 8, 11, 13), (0, 8, 14, 15)]] : List Cond), w ∈ lw_good := mem_dec (by decide +kernel)
theorem cdL_parish : Cd yL_parish 2 := by decide +kernel
theorem kw_137 : ∀ w ∈ ([.methodLink RL 137 yL_law, .static yL_law, .initialized yL_law.cls, .codeWith yL_law cL_law 3 (some .int) [(0, 8, 11, 13)]] : List Cond), w ∈ lw_good := mem_dec (by decide +kernel)
theorem cdL_law : Cd yL_law 2 := by decide +kernel
theorem kw_144 : ∀ w ∈ ([.methodLink RL 144 yL_house, .static yL_house, .initialized yL_house.cls, .codeWith yL_house cL_house 5 (some .int) [(0, 10, 13, 24), (0, 10, 17, 26)]] : List Cond), w ∈ lw_good := mem_dec (by decide +kernel)
theorem cdL_house : Cd yL_house 4 := by decide +kernel
theorem kw_148 : ∀ w ∈ ([.methodLink RL 148 yL_hearth, .static yL_hearth, .initialized yL_hearth.cls, .codeWith yL_hearth cL_hearth 5 (some .int) [(0, 10, 13, 24), (0, 10, 17, 26)]] : List Cond), w ∈ lw_good := mem_dec (by decide +kernel)
theorem cdL_hearth : Cd yL_hearth 4 := by decide +kernel
theorem kw_151 : ∀ w ∈ ([.methodLink RL 151 yL_wall, .static yL_wall, .initialized yL_wall.cls, .codeWith yL_wall cL_wall 4 (some .int) [(0, 9, 12, 24), (0, 9, 15, 35)]] : List Cond), w ∈ lw_good := mem_dec (by decide +kernel)
theorem cdL_wall : Cd yL_wall 3 := by decide +kernel
theorem kw_155 : ∀ w ∈ ([.methodLink RL 155 yL_open, .static yL_open, .initialized yL_open.cls, .codeWith yL_open cL_open 4 (some .int) [(0, 9, 12, 24), (0, 9, 15, 35)]] : List Cond), w ∈ lw_good := mem_dec (by decide +kernel)
theorem cdL_open : Cd yL_open 3 := by decide +kernel
theorem kw_158 : ∀ w ∈ ([.methodLink RL 158 yL_hide, .static yL_hide, .initialized yL_hide.cls, .codeWith yL_hide cL_hide 4 (some .int) [(0, 9, 12, 24), (0, 9, 15, 35)]] : List Cond), w ∈ lw_good := mem_dec (by decide +kernel)
theorem cdL_hide : Cd yL_hide 3 := by decide +kernel
theorem kw_161 : ∀ w ∈ ([.methodLink RL 161 yL_paper, .static yL_paper, .initialized yL_paper.cls, .codeWith yL_paper cL_paper 5 (some .int) [(0, 17, 20, 24)]] : List Cond), w ∈ lw_good := mem_dec (by decide +kernel)
theorem cdL_paper : Cd yL_paper 4 := by decide +kernel
theorem kw_165 : ∀ w ∈ ([.methodLink RL 165 yL_flue, .static yL_flue, .initialized yL_flue.cls, .codeWith yL_flue cL_flue 5 (some .int) [(0, 10, 13, 24)]] : List Cond), w ∈ lw_good := mem_dec (by decide +kernel)
theorem cdL_flue : Cd yL_flue 4 := by decide +kernel
theorem kw_168 : ∀ w ∈ ([.methodLink RL 168 yL_rate, .static yL_rate, .initialized yL_rate.cls, .codeWith yL_rate cL_rate 4 (some .int) [(0, 9, 12, 13)]] : List Cond), w ∈ lw_good := mem_dec (by decide +kernel)
theorem cdL_rate : Cd yL_rate 3 := by decide +kernel
theorem kw_171 : ∀ w ∈ ([.methodLink RL 171 yL_give, .static yL_give, .initialized yL_give.cls, .codeWith yL_give cL_give 5 (some .int) [(0, 10, 13, 24), (0, 10, 17, 13)]] : List Cond), w ∈ lw_good := mem_dec (by decide +kernel)
theorem cdL_give : Cd yL_give 4 := by decide +kernel
theorem kw_174 : ∀ w ∈ ([.methodLink RL 174 yL_quarters, .static yL_quarters, .initialized yL_quarters.cls, .codeWith yL_quarters cL_quarters 4 (some .int) [(0, 9, 12, 13)]] : List Cond), w ∈ lw_good := mem_dec (by decide +kernel)
theorem cdL_quarters : Cd yL_quarters 3 := by decide +kernel
theorem kw_177 : ∀ w ∈ ([.methodLink RL 177 yL_stacks, .static yL_stacks, .initialized yL_stacks.cls, .codeWith yL_stacks cL_stacks 4 (some .int) [(0, 9, 12, 24)]] : List Cond), w ∈ lw_good := mem_dec (by decide +kernel)
theorem cdL_stacks : Cd yL_stacks 3 := by decide +kernel
theorem kw_184 : ∀ w ∈ ([.methodLink RL 184 yL_plan, .static yL_plan, .initialized yL_plan.cls, .codeWith yL_plan cL_plan 5 (some .int) [(0, 10, 13, 24)]] : List Cond), w ∈ lw_good := mem_dec (by decide +kernel)
theorem cdL_plan : Cd yL_plan 4 := by decide +kernel
theorem kw_187 : ∀ w ∈ ([.methodLink RL 187 yL_brings, .static yL_brings, .initialized yL_brings.cls, .codeWith yL_brings cL_brings 4 (some .int) [(0, 9, 12, 13)]] : List Cond), w ∈ lw_good := mem_dec (by decide +kernel)
theorem cdL_brings : Cd yL_brings 3 := by decide +kernel
theorem kw_194 : ∀ w ∈ ([.methodLink RL 194 yL_round, .static yL_round, .initialized yL_round.cls, .codeWith yL_round cL_round 4 (some .int) [(0, 9, 12, 13)]] : List Cond), w ∈ lw_good := mem_dec (by decide +kernel)
theorem cdL_round : Cd yL_round 3 := by decide +kernel
theorem kw_197 : ∀ w ∈ ([.methodLink RL 197 yL_smokes, .static yL_smokes, .initialized yL_smokes.cls, .codeWith yL_smokes cL_smokes 5 (some .int) [(0, 10, 13, 24), (0, 10, 17, 13)]] : List Cond), w ∈ lw_good := mem_dec (by decide +kernel)
theorem cdL_smokes : Cd yL_smokes 4 := by decide +kernel
theorem kw_200 : ∀ w ∈ ([.methodLink RL 200 yL_look, .static yL_look, .initialized yL_look.cls, .codeWith yL_look cL_look 4 (some .int) [(0, 9, 12, 24), (0, 9, 15, 13)]] : List Cond), w ∈ lw_good := mem_dec (by decide +kernel)
theorem cdL_look : Cd yL_look 3 := by decide +kernel
theorem kw_203 : ∀ w ∈ ([.methodLink RL 203 yL_window, .static yL_window, .initialized yL_window.cls, .codeWith yL_window cL_window 4 (some .int) [(0, 9, 12, 24)]] : List Cond), w ∈ lw_good := mem_dec (by decide +kernel)
theorem cdL_window : Cd yL_window 3 := by decide +kernel
theorem kw_206 : ∀ w ∈ ([.methodLink RL 206 yL_odds, .static yL_odds, .initialized yL_odds.cls, .codeWith yL_odds cL_odds 4 (some .int) [(0, 9, 12, 24)]] : List Cond), w ∈ lw_good := mem_dec (by decide +kernel)
theorem cdL_odds : Cd yL_odds 3 := by decide +kernel
theorem kw_220 : ∀ w ∈ ([.methodLink RL 220 yL_broke, .static yL_broke, .initialized yL_broke.cls, .codeWith yL_broke cL_broke 4 (some .int) [(0, 9, 12, 24)]] : List Cond), w ∈ lw_good := mem_dec (by decide +kernel)
theorem cdL_broke : Cd yL_broke 3 := by decide +kernel
theorem kw_223 : ∀ w ∈ ([.methodLink RL 223 yL_game, .static yL_game, .initialized yL_game.cls, .codeWith yL_game cL_game 4 (some .int) [(0, 9, 12, 24)]] : List Cond), w ∈ lw_good := mem_dec (by decide +kernel)
theorem cdL_game : Cd yL_game 3 := by decide +kernel
theorem kw_226 : ∀ w ∈ ([.methodLink RL 226 yL_crowd, .static yL_crowd, .initialized yL_crowd.cls, .codeWith yL_crowd cL_crowd 4 (some .int) [(0, 9, 12, 24)]] : List Cond), w ∈ lw_good := mem_dec (by decide +kernel)
theorem cdL_crowd : Cd yL_crowd 3 := by decide +kernel
theorem kw_229 : ∀ w ∈ ([.methodLink RL 229 yL_warmer, .static yL_warmer, .initialized yL_warmer.cls, .codeWith yL_warmer cL_warmer 4 (some .int) [(0, 9, 12, 24)]] : List Cond), w ∈ lw_good := mem_dec (by decide +kernel)
theorem cdL_warmer : Cd yL_warmer 3 := by decide +kernel
theorem kw_232 : ∀ w ∈ ([.methodLink RL 232 yL_first, .static yL_first, .initialized yL_first.cls, .codeWith yL_first cL_first 4 (some .int) [(0, 9, 12, 13)]] : List Cond), w ∈ lw_good := mem_dec (by decide +kernel)
theorem cdL_first : Cd yL_first 3 := by decide +kernel
theorem kw_247 : ∀ w ∈ ([.methodLink RL 247 yL_least, .static yL_least, .initialized yL_least.cls, .codeWith yL_least cL_least 5 (some .int) [(0, 10, 13, 24), (0, 10, 17, 13)]] : List Cond), w ∈ lw_good := mem_dec (by decide +kernel)
theorem cdL_least : Cd yL_least 4 := by decide +kernel
theorem kw_250 : ∀ w ∈ ([.methodLink RL 250 yL_ahead, .static yL_ahead, .initialized yL_ahead.cls, .codeWith yL_ahead cL_ahead 5 (some .int) [(0, 10, 13, 24), (0, 10, 17, 13)]] : List Cond), w ∈ lw_good := mem_dec (by decide +kernel)
theorem cdL_ahead : Cd yL_ahead 4 := by decide +kernel
theorem kw_253 : ∀ w ∈ ([.methodLink RL 253 yL_trial, .static yL_trial, .initialized yL_trial.cls, .codeWith yL_trial cL_trial 5 (some .int) [(0, 10, 13, 13)]] : List Cond), w ∈ lw_good := mem_dec (by decide +kernel)
theorem cdL_trial : Cd yL_trial 4 := by decide +kernel
theorem kw_256 : ∀ w ∈ ([.methodLink RL 256 yL_span, .static yL_span, .initialized yL_span.cls, .codeWith yL_span cL_span 5 (some .int) [(0, 10, 13, 13)]] : List Cond), w ∈ lw_good := mem_dec (by decide +kernel)
theorem cdL_span : Cd yL_span 4 := by decide +kernel
theorem kw_259 : ∀ w ∈ ([.methodLink RL 259 yL_led, .static yL_led, .initialized yL_led.cls, .codeWith yL_led cL_led 5 (some .int) [(0, 10, 13, 24)]] : List Cond), w ∈ lw_good := mem_dec (by decide +kernel)
theorem cdL_led : Cd yL_led 4 := by decide +kernel
theorem kw_262 : ∀ w ∈ ([.methodLink RL 262 yL_log, .static yL_log, .initialized yL_log.cls, .codeWith yL_log cL_log 5 (some .int) [(0, 10, 13, 26)]] : List Cond), w ∈ lw_good := mem_dec (by decide +kernel)
theorem cdL_log : Cd yL_log 4 := by decide +kernel
set_option maxRecDepth 100000 in
set_option maxHeartbeats 4000000 in
theorem lc_0 {p : Program} {l : Launch} {e : Env} {s : State} {m : MethodId} {below : List Frame} {meth : Method} {c : Code} {b L : Nat} {xs : Nat → Int32} {D : DD} {G : Nat → Nat} {H : Heap} {locs : List Loc} {ls : Array Slot} {i : Int32} {k x mo o : Nat} {Q : State → Prop} (hl0 : l.stackTraces = false) (C : Cx D G p s m #[.ref b] meth c RL code 7) (hX : va_X b L xs s s.heap) (hbl : b < s.heap.size) (I : Iv D G s.heap H locs x mo o) (tp : tln D H x = (fI D H 11 mo 9).toInt ∧ BQ D H x mo ∧ RQ D H x ∧ VQ D H x mo) (hi : 0 ≤ i.toInt ∧ i.toInt + 6 ≤ L) (hL : L ≤ 3072) (hk : k ≤ 511) (hl : lv_has ls 7 [(0, .ref b), (1, .ref x), (2, .ref mo), (3, .ref o), (4, .int i)])
    (Fin : ∀ G' H' locs' ls', Iv D G' s.heap H' locs' x mo o → tln D H' x = (fI D H' 11 mo 9).toInt ∧ BQ D H' x mo ∧ RQ D H' x ∧ VQ D H' x mo → lv_has ls' 7 [(0, .ref b), (1, .ref x), (2, .ref mo), (3, .ref o), (4, .int i)] → W p l e room_1 s m #[.ref b] below meth c H' locs' (450 + 5 * k + 5) (30000 + 455 * k + 455) Q (F0 m 1653 ls' [])) : W p l e room_1 s m #[.ref b] below meth c H locs (450 + 5 * k) (30000 + 455 * k) Q (F0 m 240 ls []) := by
  have hx := C.1
  have hb := C.2.1
  have hbA : ¬ s.heap.size ≤ b := by omega
  have tp0 := tp
  obtain ⟨tp, bq0, rq0, vq0⟩ := tp
  obtain ⟨⟨V, K, ci0, mi0, pv0, pk0⟩, ⟨wf0, if0⟩, rp0⟩ := vq0
  refine lv_aload_n hx hb dL_law__240 rfl (lv_at hl 1 rfl) ?_
  refine lv_aload_n hx hb dL_law__241 rfl (lv_at hl 0 rfl) ?_
  refine lv_iload hx hb dL_law__242 (lv_at hl 4 rfl) ?_
  refine lv_iconst (v := 1) hx hb dL_law__244 (by decide) ?_
  refine lv_iadd hx hb dL_law__245 ?_
  refine lv_topi (fun v1 ev1 => ?_)
  have kv1 : (1 : Int32).toInt = 1 := by decide
  have fv1 : v1.toInt = i.toInt + 1 := by rw [ev1]; exact i_addc kv1 (by omega) (by omega)
  refine va_sld (A := fun q => s.heap.size ≤ q) hx hb hX hbl hbA I.S (i_vin (by omega) (by omega)) dL_law__246 ?_
  refine lv_topi (fun v2 ev2 => ?_)
  refine lv_aload_n hx hb dL_law__247 rfl (lv_at hl 0 rfl) ?_
  refine lv_iload hx hb dL_law__248 (lv_at hl 4 rfl) ?_
  refine lv_iconst (v := 2) hx hb dL_law__250 (by decide) ?_
  refine lv_iadd hx hb dL_law__251 ?_
  refine lv_topi (fun v3 ev3 => ?_)
  have kv3 : (2 : Int32).toInt = 2 := by decide
  have fv3 : v3.toInt = i.toInt + 2 := by rw [ev3]; exact i_addc kv3 (by omega) (by omega)
  refine va_sld (A := fun q => s.heap.size ≤ q) hx hb hX hbl hbA I.S (i_vin (by omega) (by omega)) dL_law__252 ?_
  refine lv_topi (fun v4 ev4 => ?_)
  refine lv_aload_n hx hb dL_law__253 rfl (lv_at hl 0 rfl) ?_
  refine lv_iload hx hb dL_law__254 (lv_at hl 4 rfl) ?_
  refine lv_iconst (v := 3) hx hb dL_law__256 (by decide) ?_
  refine lv_iadd hx hb dL_law__257 ?_
  refine lv_topi (fun v5 ev5 => ?_)
  have kv5 : (3 : Int32).toInt = 3 := by decide
  have fv5 : v5.toInt = i.toInt + 3 := by rw [ev5]; exact i_addc kv5 (by omega) (by omega)
  refine va_sld (A := fun q => s.heap.size ≤ q) hx hb hX hbl hbA I.S (i_vin (by omega) (by omega)) dL_law__258 ?_
  refine lv_topi (fun v6 ev6 => ?_)
  refine lv_aload_n hx hb dL_law__259 rfl (lv_at hl 0 rfl) ?_
  refine lv_iload hx hb dL_law__260 (lv_at hl 4 rfl) ?_
  refine lv_iconst (v := 4) hx hb dL_law__262 (by decide) ?_
  refine lv_iadd hx hb dL_law__263 ?_
  refine lv_topi (fun v7 ev7 => ?_)
  have kv7 : (4 : Int32).toInt = 4 := by decide
  have fv7 : v7.toInt = i.toInt + 4 := by rw [ev7]; exact i_addc kv7 (by omega) (by omega)
  refine va_sld (A := fun q => s.heap.size ≤ q) hx hb hX hbl hbA I.S (i_vin (by omega) (by omega)) dL_law__264 ?_
  refine lv_topi (fun v8 ev8 => ?_)
  refine lv_aload_n hx hb dL_law__265 rfl (lv_at hl 0 rfl) ?_
  refine lv_iload hx hb dL_law__266 (lv_at hl 4 rfl) ?_
  refine lv_iconst (v := 5) hx hb dL_law__268 (by decide) ?_
  refine lv_iadd hx hb dL_law__269 ?_
  refine lv_topi (fun v9 ev9 => ?_)
  have kv9 : (5 : Int32).toInt = 5 := by decide
  have fv9 : v9.toInt = i.toInt + 5 := by rw [ev9]; exact i_addc kv9 (by omega) (by omega)
  refine va_sld (A := fun q => s.heap.size ≤ q) hx hb hX hbl hbA I.S (i_vin (by omega) (by omega)) dL_law__270 ?_
  refine lv_topi (fun v10 ev10 => ?_)
  refine l_E (T := TX11) (As := [.int v2, .int v4, .int v6, .int v8, .int v10]) C I (c_X11_feed_f l D G x v2 v4 v6 v8 v10 I.2.1.1) kV_L_121 I.2.1.1 trivial (by decide +kernel) dL_law__271 hl.1 rfl rfl (by decide) cd_X11_feed ⟨Nat.le_of_ble_eq_true rfl, Nat.le_of_ble_eq_true rfl, (by show 450 + 5 * k ≤ 601024; omega), (by show 30000 + 455 * k ≤ 7293034; omega), Nat.le_of_ble_eq_true rfl⟩ (fun v11 H11 L11 I11 K11 q11 => ?_)
  have m11 : (fI D H11 11 mo 9).toInt = (fI D H 11 mo 9).toInt := congrArg Int32.toInt (K11.fI I.2.1.2.1 rfl (by decide) (by decide +kernel))
  have rq11 : RQ D H11 x := rq0.keep I.1 I.2.1.1 (Keep.o K11 o) (by decide +kernel)
  have a9_11 : (fI D H11 10 x 9).toInt = (fI D H 10 x 9).toInt := ko_x (Keep.o K11 o) I.2.1.1 (by decide) (by decide +kernel)
  have a8_11 : (fI D H11 10 x 8).toInt = (fI D H 10 x 8).toInt := ko_x (Keep.o K11 o) I.2.1.1 (by decide) (by decide +kernel)
  have b4_11 : (fI D H11 11 mo 14).toInt = (fI D H 11 mo 14).toInt := ko_m (Keep.o K11 o) I.2.1.2.1 (by decide) (by decide +kernel)
  have b6_11 : (fI D H11 11 mo 6).toInt = (fI D H 11 mo 6).toInt := ko_m (Keep.o K11 o) I.2.1.2.1 (by decide) (by decide +kernel)
  have rp11 : RP6 D H11 x := rp0.keep I.1 I.2.1.1 (Keep.o K11 o) (by decide +kernel)
  have ci11 := ci0.keep I.1 I.2.1.1 K11 (by decide +kernel)
  have mi11 := mi0.keep I.1 I.2.1.2.1 K11 (by decide +kernel)
  obtain ⟨r11, rfl, q11⟩ := q11
  refine lv_pop hx hb dL_law__274 rfl ?_
  refine lv_aload_n hx hb dL_law__275 rfl (lv_at hl 2 rfl) ?_
  refine lv_aload_n hx hb dL_law__276 rfl (lv_at hl 0 rfl) ?_
  refine lv_iload hx hb dL_law__277 (lv_at hl 4 rfl) ?_
  refine lv_iconst (v := 1) hx hb dL_law__279 (by decide) ?_
  refine lv_iadd hx hb dL_law__280 ?_
  refine lv_topi (fun v12 ev12 => ?_)
  have kv12 : (1 : Int32).toInt = 1 := by decide
  have fv12 : v12.toInt = i.toInt + 1 := by rw [ev12]; exact i_addc kv12 (by omega) (by omega)
  refine va_sld (A := fun q => s.heap.size ≤ q) hx hb hX hbl hbA I11.S (i_vin (by omega) (by omega)) dL_law__281 ?_
  refine lv_topi (fun v13 ev13 => ?_)
  have wv13 : v13 = v2 := ev13.trans ((congrArg (fun z9 : Int32 => xs z9.toNatClampNeg) (i_eq.mpr (by omega) : v12 = v1)).trans ev2.symm)
  refine lv_aload_n hx hb dL_law__282 rfl (lv_at hl 0 rfl) ?_
  refine lv_iload hx hb dL_law__283 (lv_at hl 4 rfl) ?_
  refine lv_iconst (v := 2) hx hb dL_law__285 (by decide) ?_
  refine lv_iadd hx hb dL_law__286 ?_
  refine lv_topi (fun v14 ev14 => ?_)
  have kv14 : (2 : Int32).toInt = 2 := by decide
  have fv14 : v14.toInt = i.toInt + 2 := by rw [ev14]; exact i_addc kv14 (by omega) (by omega)
  refine va_sld (A := fun q => s.heap.size ≤ q) hx hb hX hbl hbA I11.S (i_vin (by omega) (by omega)) dL_law__287 ?_
  refine lv_topi (fun v15 ev15 => ?_)
  have wv15 : v15 = v4 := ev15.trans ((congrArg (fun z9 : Int32 => xs z9.toNatClampNeg) (i_eq.mpr (by omega) : v14 = v3)).trans ev4.symm)
  refine lv_aload_n hx hb dL_law__288 rfl (lv_at hl 0 rfl) ?_
  refine lv_iload hx hb dL_law__289 (lv_at hl 4 rfl) ?_
  refine lv_iconst (v := 3) hx hb dL_law__291 (by decide) ?_
  refine lv_iadd hx hb dL_law__292 ?_
  refine lv_topi (fun v16 ev16 => ?_)
  have kv16 : (3 : Int32).toInt = 3 := by decide
  have fv16 : v16.toInt = i.toInt + 3 := by rw [ev16]; exact i_addc kv16 (by omega) (by omega)
  refine va_sld (A := fun q => s.heap.size ≤ q) hx hb hX hbl hbA I11.S (i_vin (by omega) (by omega)) dL_law__293 ?_
  refine lv_topi (fun v17 ev17 => ?_)
  have wv17 : v17 = v6 := ev17.trans ((congrArg (fun z9 : Int32 => xs z9.toNatClampNeg) (i_eq.mpr (by omega) : v16 = v5)).trans ev6.symm)
  refine lv_aload_n hx hb dL_law__294 rfl (lv_at hl 0 rfl) ?_
  refine lv_iload hx hb dL_law__295 (lv_at hl 4 rfl) ?_
  refine lv_iconst (v := 4) hx hb dL_law__297 (by decide) ?_
  refine lv_iadd hx hb dL_law__298 ?_
  refine lv_topi (fun v18 ev18 => ?_)
  have kv18 : (4 : Int32).toInt = 4 := by decide
  have fv18 : v18.toInt = i.toInt + 4 := by rw [ev18]; exact i_addc kv18 (by omega) (by omega)
  refine va_sld (A := fun q => s.heap.size ≤ q) hx hb hX hbl hbA I11.S (i_vin (by omega) (by omega)) dL_law__299 ?_
  refine lv_topi (fun v19 ev19 => ?_)
  have wv19 : v19 = v8 := ev19.trans ((congrArg (fun z9 : Int32 => xs z9.toNatClampNeg) (i_eq.mpr (by omega) : v18 = v7)).trans ev8.symm)
  refine lv_aload_n hx hb dL_law__300 rfl (lv_at hl 0 rfl) ?_
  refine lv_iload hx hb dL_law__301 (lv_at hl 4 rfl) ?_
  refine lv_iconst (v := 5) hx hb dL_law__303 (by decide) ?_
  refine lv_iadd hx hb dL_law__304 ?_
  refine lv_topi (fun v20 ev20 => ?_)
  have kv20 : (5 : Int32).toInt = 5 := by decide
  have fv20 : v20.toInt = i.toInt + 5 := by rw [ev20]; exact i_addc kv20 (by omega) (by omega)
  refine va_sld (A := fun q => s.heap.size ≤ q) hx hb hX hbl hbA I11.S (i_vin (by omega) (by omega)) dL_law__305 ?_
  refine lv_topi (fun v21 ev21 => ?_)
  have wv21 : v21 = v10 := ev21.trans ((congrArg (fun z9 : Int32 => xs z9.toNatClampNeg) (i_eq.mpr (by omega) : v20 = v9)).trans ev10.symm)
  refine l_E (T := TX12) (As := [.int v13, .int v15, .int v17, .int v19, .int v21]) C I11 (c_X12_feed_f l D G mo v13 v15 v17 v19 v21 I11.2.1.2.1) kV_L_125 I11.2.1.2.1 trivial (by decide +kernel) dL_law__306 hl.1 rfl rfl (by decide) cd_X12_feed ⟨Nat.le_of_ble_eq_true rfl, Nat.le_of_ble_eq_true rfl, (by show 450 + 5 * k ≤ 601024; omega), (by show 30000 + 455 * k ≤ 7293034; omega), Nat.le_of_ble_eq_true rfl⟩ (fun v22 H22 L22 I22 K22 q22 => ?_)
  have t22 : tln D H22 x = tln D H11 x := tlW I11.1 I11.2.1.1 K22 (by decide +kernel) (by decide +kernel)
  have rq22 : RQ D H22 x := rq11.keep I11.1 I11.2.1.1 (Keep.o K22 o) (by decide +kernel)
  have a9_22 : (fI D H22 10 x 9).toInt = (fI D H11 10 x 9).toInt := ko_x (Keep.o K22 o) I11.2.1.1 (by decide) (by decide +kernel)
  have a8_22 : (fI D H22 10 x 8).toInt = (fI D H11 10 x 8).toInt := ko_x (Keep.o K22 o) I11.2.1.1 (by decide) (by decide +kernel)
  have b4_22 : (fI D H22 11 mo 14).toInt = (fI D H11 11 mo 14).toInt := ko_m (Keep.o K22 o) I11.2.1.2.1 (by decide) (by decide +kernel)
  have b6_22 : (fI D H22 11 mo 6).toInt = (fI D H11 11 mo 6).toInt := ko_m (Keep.o K22 o) I11.2.1.2.1 (by decide) (by decide +kernel)
  have rp22 : RP6 D H22 x := rp11.keep I11.1 I11.2.1.1 (Keep.o K22 o) (by decide +kernel)
  have ci22 := ci11.keep I11.1 I11.2.1.1 K22 (by decide +kernel)
  have mi22 := mi11.keep I11.1 I11.2.1.2.1 K22 (by decide +kernel)
  obtain ⟨r22, rfl, q22⟩ := q22
  rw [wv13, wv15, wv17, wv19, wv21] at q22
  have qa22 := q22.1
  have qa11 := q11.1
  have eL9 : (fI D H11 11 mo 9).toInt = (fI D H 9 (fR D H 10 x 0) 1).toInt := m11.trans (by unfold tln at tp; exact tp.symm)
  have b09 : ∀ i9 : Nat, nrm (eI H (fR D H 9 (fR D H 10 x 0) 0) i9).toInt = nrm (eI H11 (fR D H11 11 mo 8) i9).toInt := fun i9 => by rw [bm_keep I.1 I.2.1.2.1 (Keep.o K11 o) (by decide +kernel) i9]; exact bq0 i9
  have bq22 : BQ D H22 x mo := by
    by_cases c9 : (fI D H 9 (fR D H 10 x 0) 1).toInt ≤ 380
    · have f1 := q11.2.1 c9
      have f2 := q22.2.1 (by rw [eL9]; exact c9)
      rw [eL9] at f2
      intro i9
      rw [bx_keep I11.1 I11.2.1.1 (Keep.o K22 o) (by decide +kernel) i9]
      exact BQ.feed b09 f1 f2 i9
    · have f1 := q11.2.2 (by omega)
      have f2 := q22.2.2 (by rw [eL9]; omega)
      intro i9
      rw [bx_keep I11.1 I11.2.1.1 (Keep.o K22 o) (by decide +kernel) i9, f1 i9, f2 i9]
      exact b09 i9
  refine lv_pop hx hb dL_law__309 rfl ?_
  refine lv_goto (tgt := 1653) hx hb dL_law__310 (by decide) ?_
  exact W.widen (by show 450 + 5 * k ≤ 450 + 5 * k + 5; omega) (by show 30000 + 455 * k ≤ 30000 + 455 * k + 455; omega) (Fin _ _ _ _ I22 (⟨by unfold tln at *; omega, bq22, rq22, ⟨⟨V, K, ci22, mi22, pv0, fun h9 => pk0 (by omega)⟩, ⟨by omega, by omega⟩, rp22⟩⟩) (lv_sub hl [0, 1, 2, 3, 4] rfl))

set_option maxRecDepth 100000 in
set_option maxHeartbeats 4000000 in
theorem lc_1 {p : Program} {l : Launch} {e : Env} {s : State} {m : MethodId} {below : List Frame} {meth : Method} {c : Code} {b L : Nat} {xs : Nat → Int32} {D : DD} {G : Nat → Nat} {H : Heap} {locs : List Loc} {ls : Array Slot} {i : Int32} {k x mo o : Nat} {Q : State → Prop} (hl0 : l.stackTraces = false) (C : Cx D G p s m #[.ref b] meth c RL code 7) (hX : va_X b L xs s s.heap) (hbl : b < s.heap.size) (I : Iv D G s.heap H locs x mo o) (tp : tln D H x = (fI D H 11 mo 9).toInt ∧ BQ D H x mo ∧ RQ D H x ∧ VQ D H x mo) (hi : 0 ≤ i.toInt ∧ i.toInt + 6 ≤ L) (hL : L ≤ 3072) (hk : k ≤ 511) (hl : lv_has ls 7 [(0, .ref b), (1, .ref x), (2, .ref mo), (3, .ref o), (4, .int i)])
    (Fin : ∀ G' H' locs' ls', Iv D G' s.heap H' locs' x mo o → tln D H' x = (fI D H' 11 mo 9).toInt ∧ BQ D H' x mo ∧ RQ D H' x ∧ VQ D H' x mo → lv_has ls' 7 [(0, .ref b), (1, .ref x), (2, .ref mo), (3, .ref o), (4, .int i)] → W p l e room_1 s m #[.ref b] below meth c H' locs' (450 + 5 * k + 5) (30000 + 455 * k + 455) Q (F0 m 1653 ls' [])) : W p l e room_1 s m #[.ref b] below meth c H locs (450 + 5 * k) (30000 + 455 * k) Q (F0 m 313 ls []) := by
  have hx := C.1
  have hb := C.2.1
  have hbA : ¬ s.heap.size ≤ b := by omega
  have tp0 := tp
  obtain ⟨tp, bq0, rq0, vq0⟩ := tp
  obtain ⟨⟨V, K, ci0, mi0, pv0, pk0⟩, ⟨wf0, if0⟩, rp0⟩ := vq0
  refine lv_aload_n hx hb dL_law__313 rfl (lv_at hl 1 rfl) ?_
  refine lv_aload_n hx hb dL_law__314 rfl (lv_at hl 0 rfl) ?_
  refine lv_iload hx hb dL_law__315 (lv_at hl 4 rfl) ?_
  refine lv_iconst (v := 1) hx hb dL_law__317 (by decide) ?_
  refine lv_iadd hx hb dL_law__318 ?_
  refine lv_topi (fun v1 ev1 => ?_)
  have kv1 : (1 : Int32).toInt = 1 := by decide
  have fv1 : v1.toInt = i.toInt + 1 := by rw [ev1]; exact i_addc kv1 (by omega) (by omega)
  refine va_sld (A := fun q => s.heap.size ≤ q) hx hb hX hbl hbA I.S (i_vin (by omega) (by omega)) dL_law__319 ?_
  refine lv_topi (fun v2 ev2 => ?_)
  refine l_E (T := TX11) (As := [.int v2]) C I (c_X11_end l D G x v2 I.2.1.1) kV_L_126 I.2.1.1 trivial (by decide +kernel) dL_law__320 hl.1 rfl rfl (by decide) cd_X11_end ⟨Nat.le_of_ble_eq_true rfl, Nat.le_of_ble_eq_true rfl, (by show 450 + 5 * k ≤ 601024; omega), (by show 30000 + 455 * k ≤ 7293034; omega), Nat.le_of_ble_eq_true rfl⟩ (fun v3 H3 L3 I3 K3 q3 => ?_)
  have m3 : (fI D H3 11 mo 9).toInt = (fI D H 11 mo 9).toInt := congrArg Int32.toInt (K3.fI I.2.1.2.1 rfl (by decide) (by decide +kernel))
  have bq3 : BQ D H3 x mo := bq0.keep I.1 I.2.1.1 I.2.1.2.1 (Keep.o K3 o) (by decide +kernel) (by decide +kernel)
  have rq3 : RQ D H3 x := rq0.keep I.1 I.2.1.1 (Keep.o K3 o) (by decide +kernel)
  have a9_3 : (fI D H3 10 x 9).toInt = (fI D H 10 x 9).toInt := ko_x (Keep.o K3 o) I.2.1.1 (by decide) (by decide +kernel)
  have a8_3 : (fI D H3 10 x 8).toInt = (fI D H 10 x 8).toInt := ko_x (Keep.o K3 o) I.2.1.1 (by decide) (by decide +kernel)
  have b4_3 : (fI D H3 11 mo 14).toInt = (fI D H 11 mo 14).toInt := ko_m (Keep.o K3 o) I.2.1.2.1 (by decide) (by decide +kernel)
  have b6_3 : (fI D H3 11 mo 6).toInt = (fI D H 11 mo 6).toInt := ko_m (Keep.o K3 o) I.2.1.2.1 (by decide) (by decide +kernel)
  have rp3 : RP6 D H3 x := rp0.keep I.1 I.2.1.1 (Keep.o K3 o) (by decide +kernel)
  have ci3 := ci0.keep I.1 I.2.1.1 K3 (by decide +kernel)
  have mi3 := mi0.keep I.1 I.2.1.2.1 K3 (by decide +kernel)
  obtain ⟨r3, rfl, q3⟩ := q3
  refine lv_pop hx hb dL_law__323 rfl ?_
  refine lv_aload_n hx hb dL_law__324 rfl (lv_at hl 2 rfl) ?_
  refine lv_aload_n hx hb dL_law__325 rfl (lv_at hl 0 rfl) ?_
  refine lv_iload hx hb dL_law__326 (lv_at hl 4 rfl) ?_
  refine lv_iconst (v := 1) hx hb dL_law__328 (by decide) ?_
  refine lv_iadd hx hb dL_law__329 ?_
  refine lv_topi (fun v4 ev4 => ?_)
  have kv4 : (1 : Int32).toInt = 1 := by decide
  have fv4 : v4.toInt = i.toInt + 1 := by rw [ev4]; exact i_addc kv4 (by omega) (by omega)
  refine va_sld (A := fun q => s.heap.size ≤ q) hx hb hX hbl hbA I3.S (i_vin (by omega) (by omega)) dL_law__330 ?_
  refine lv_topi (fun v5 ev5 => ?_)
  have wv5 := congrArg Int32.toInt (ev5.trans ((congrArg (fun z9 : Int32 => xs z9.toNatClampNeg) (i_eq.mpr (by omega) : v4 = v1)).trans ev2.symm))
  refine l_E (T := TX12) (As := [.int v5]) C I3 (c_X12_end l D G mo v5 I3.2.1.2.1) kV_L_130 I3.2.1.2.1 trivial (by decide +kernel) dL_law__331 hl.1 rfl rfl (by decide) cd_X12_end ⟨Nat.le_of_ble_eq_true rfl, Nat.le_of_ble_eq_true rfl, (by show 450 + 5 * k ≤ 601024; omega), (by show 30000 + 455 * k ≤ 7293034; omega), Nat.le_of_ble_eq_true rfl⟩ (fun v6 H6 L6 I6 K6 q6 => ?_)
  have t6 : tln D H6 x = tln D H3 x := tlW I3.1 I3.2.1.1 K6 (by decide +kernel) (by decide +kernel)
  have bq6 : BQ D H6 x mo := bq3.keep I3.1 I3.2.1.1 I3.2.1.2.1 (Keep.o K6 o) (by decide +kernel) (by decide +kernel)
  have rq6 : RQ D H6 x := rq3.keep I3.1 I3.2.1.1 (Keep.o K6 o) (by decide +kernel)
  have a9_6 : (fI D H6 10 x 9).toInt = (fI D H3 10 x 9).toInt := ko_x (Keep.o K6 o) I3.2.1.1 (by decide) (by decide +kernel)
  have a8_6 : (fI D H6 10 x 8).toInt = (fI D H3 10 x 8).toInt := ko_x (Keep.o K6 o) I3.2.1.1 (by decide) (by decide +kernel)
  have b4_6 : (fI D H6 11 mo 14).toInt = (fI D H3 11 mo 14).toInt := ko_m (Keep.o K6 o) I3.2.1.2.1 (by decide) (by decide +kernel)
  have b6_6 : (fI D H6 11 mo 6).toInt = (fI D H3 11 mo 6).toInt := ko_m (Keep.o K6 o) I3.2.1.2.1 (by decide) (by decide +kernel)
  have rp6 : RP6 D H6 x := rp3.keep I3.1 I3.2.1.1 (Keep.o K6 o) (by decide +kernel)
  have ci6 := ci3.keep I3.1 I3.2.1.1 K6 (by decide +kernel)
  have mi6 := mi3.keep I3.1 I3.2.1.2.1 K6 (by decide +kernel)
  obtain ⟨r6, rfl, q6⟩ := q6
  refine lv_pop hx hb dL_law__334 rfl ?_
  refine lv_goto (tgt := 1653) hx hb dL_law__335 (by decide) ?_
  exact W.widen (by show 450 + 5 * k ≤ 450 + 5 * k + 5; omega) (by show 30000 + 455 * k ≤ 30000 + 455 * k + 455; omega) (Fin _ _ _ _ I6 (⟨by unfold tln at *; omega, bq6, rq6, ⟨⟨V, K, ci6, mi6, pv0, fun h9 => pk0 (by omega)⟩, ⟨by omega, by omega⟩, rp6⟩⟩) (lv_sub hl [0, 1, 2, 3, 4] rfl))

set_option maxRecDepth 100000 in
set_option maxHeartbeats 4000000 in
theorem lc_2 {p : Program} {l : Launch} {e : Env} {s : State} {m : MethodId} {below : List Frame} {meth : Method} {c : Code} {b L : Nat} {xs : Nat → Int32} {D : DD} {G : Nat → Nat} {H : Heap} {locs : List Loc} {ls : Array Slot} {i : Int32} {k x mo o : Nat} {Q : State → Prop} (hl0 : l.stackTraces = false) (C : Cx D G p s m #[.ref b] meth c RL code 7) (hX : va_X b L xs s s.heap) (hbl : b < s.heap.size) (I : Iv D G s.heap H locs x mo o) (tp : tln D H x = (fI D H 11 mo 9).toInt ∧ BQ D H x mo ∧ RQ D H x ∧ VQ D H x mo) (hi : 0 ≤ i.toInt ∧ i.toInt + 6 ≤ L) (hL : L ≤ 3072) (hk : k ≤ 511) (hl : lv_has ls 7 [(0, .ref b), (1, .ref x), (2, .ref mo), (3, .ref o), (4, .int i)])
    (Fin : ∀ G' H' locs' ls', Iv D G' s.heap H' locs' x mo o → tln D H' x = (fI D H' 11 mo 9).toInt ∧ BQ D H' x mo ∧ RQ D H' x ∧ VQ D H' x mo → lv_has ls' 7 [(0, .ref b), (1, .ref x), (2, .ref mo), (3, .ref o), (4, .int i)] → W p l e room_1 s m #[.ref b] below meth c H' locs' (450 + 5 * k + 5) (30000 + 455 * k + 455) Q (F0 m 1653 ls' [])) : W p l e room_1 s m #[.ref b] below meth c H locs (450 + 5 * k) (30000 + 455 * k) Q (F0 m 338 ls []) := by
  have hx := C.1
  have hb := C.2.1
  have hbA : ¬ s.heap.size ≤ b := by omega
  have tp0 := tp
  obtain ⟨tp, bq0, rq0, vq0⟩ := tp
  obtain ⟨⟨V, K, ci0, mi0, pv0, pk0⟩, ⟨wf0, if0⟩, rp0⟩ := vq0
  refine lv_aload_n hx hb dL_law__338 rfl (lv_at hl 1 rfl) ?_
  refine lv_aload_n hx hb dL_law__339 rfl (lv_at hl 3 rfl) ?_
  refine l_W (As := [.ref x, .ref o]) hl0 C I (c_L_parish l D G x o (tT D H (fR D H 10 x 0)) V K I.2.1.1 I.2.1.2.2) kw_131 ⟨⟨I.2.2.2.2.2.2.2.1, I.2.2.2.2.2.2.2.2⟩, rfl, rp0.1, rp0.2.1, rp0.2.2, ci0, pv0⟩ (by decide +kernel) (by decide +kernel) dL_law__340 hl.1 cdL_parish ⟨Nat.le_of_ble_eq_true rfl, Nat.le_of_ble_eq_true rfl, (by show 450 + 5 * k + 1 ≤ 601024; omega), (by show 30000 + 455 * k + 6 ≤ 7293034; omega), Nat.le_of_ble_eq_true rfl⟩ (fun r1 G1 H1 L1 I1 C m1 t1 K1 => ?_)
  have m1 := congrArg Int32.toInt m1
  obtain ⟨t1, qp1⟩ := t1
  have a8_1 : (fI D H1 10 x 8).toInt = (fI D H 10 x 8).toInt := ko_x K1 I.2.1.1 (by decide) (by decide +kernel)
  have b4_1 : (fI D H1 11 mo 14).toInt = (fI D H 11 mo 14).toInt := ko_m K1 I.2.1.2.1 (by decide) (by decide +kernel)
  have b6_1 : (fI D H1 11 mo 6).toInt = (fI D H 11 mo 6).toInt := ko_m K1 I.2.1.2.1 (by decide) (by decide +kernel)
  have rp1 : RP6 D H1 x := rp0.keep I.1 I.2.1.1 K1 (by decide +kernel)
  have mi1 := mi0.keepO I.1 I.2.1.2.1 I.2.1.2.2 I.2.2.1.lt K1
  have bq1 : BQ D H1 x mo := bq0.keep I.1 I.2.1.1 I.2.1.2.1 K1 (by decide +kernel) (by decide +kernel)
  have rq1 : RQ D H1 x := rq0.keep I.1 I.2.1.1 K1 (by decide +kernel)
  have t1 : tln D H1 x = 0 := t1
  refine lv_istore (lv' := [(5, .int r1), (0, .ref b), (1, .ref x), (2, .ref mo), (3, .ref o), (4, .int i)]) hx hb dL_law__343 hl (by decide) rfl (fun ls hl => ?_)
  refine lv_aload_n hx hb dL_law__345 rfl (lv_at hl 3 rfl) ?_
  refine l_E (T := TX12) (As := []) C I1 (c_X12_parish_v l D G1 mo V K (tT D H (fR D H 10 x 0)) I1.2.1.2.1) kV_L_136 I1.2.1.2.1 ⟨trivial, ((tM_keep I.1 I.2.1.2.1 K1 (by decide +kernel) (by decide +kernel)).trans (tq_eq bq0 tp).symm), mi1, pv0⟩ (by decide +kernel) dL_law__346 hl.1 rfl rfl (by decide) cd_X12_parish ⟨Nat.le_of_ble_eq_true rfl, Nat.le_of_ble_eq_true rfl, (by show 450 + 5 * k + 1 ≤ 601024; omega), (by show 30000 + 455 * k + 6 ≤ 7293034; omega), Nat.le_of_ble_eq_true rfl⟩ (fun v2 H2 L2 I2 K2 q2 => ?_)
  have t2 : tln D H2 x = tln D H1 x := tlW I1.1 I1.2.1.1 K2 (by decide +kernel) (by decide +kernel)
  have bq2 : BQ D H2 x mo := bq1.keep I1.1 I1.2.1.1 I1.2.1.2.1 (Keep.o K2 o) (by decide +kernel) (by decide +kernel)
  have rq2 : RQ D H2 x := rq1.keep I1.1 I1.2.1.1 (Keep.o K2 o) (by decide +kernel)
  have a9_2 : (fI D H2 10 x 9).toInt = (fI D H1 10 x 9).toInt := ko_x (Keep.o K2 o) I1.2.1.1 (by decide) (by decide +kernel)
  have a8_2 : (fI D H2 10 x 8).toInt = (fI D H1 10 x 8).toInt := ko_x (Keep.o K2 o) I1.2.1.1 (by decide) (by decide +kernel)
  have b6_2 : (fI D H2 11 mo 6).toInt = (fI D H1 11 mo 6).toInt := ko_m (Keep.o K2 o) I1.2.1.2.1 (by decide) (by decide +kernel)
  have rp2 : RP6 D H2 x := rp1.keep I1.1 I1.2.1.1 (Keep.o K2 o) (by decide +kernel)
  obtain ⟨r2, rfl, q2⟩ := q2
  have qx2 := q2.2.2
  have pq := par_q (e := 0) (x := x) (mo := mo) (H1 := H2) pv0 (fun h9 => pk0 (by omega)) (par_up qp1 (fun Va Ka hc => hc.keep I1.1 I1.2.1.1 K2 (by decide +kernel))) qx2
  have wfq := pq.2.1
  have kq : r1.toInt = (fI D H2 11 mo 0).toInt := pq.2.2.1
  have nq : r1.toInt = 0 → (eL H2 o).toInt = r2.toInt := fun h9 => by rw [eL_keep K2 I1.2.1.2.2 (by have := I1.2.2.1; exact this)]; exact pq.2.2.2 h9
  refine lv_istore (lv' := [(6, .int r2), (5, .int r1), (0, .ref b), (1, .ref x), (2, .ref mo), (3, .ref o), (4, .int i)]) hx hb dL_law__349 hl (by decide) rfl (fun ls hl => ?_)
  refine lv_goto (tgt := 1653) hx hb dL_law__351 (by decide) ?_
  exact W.widen (by show 450 + 5 * k + 1 ≤ 450 + 5 * k + 5; omega) (by show 30000 + 455 * k + 6 ≤ 30000 + 455 * k + 455; omega) (Fin _ _ _ _ I2 (⟨by unfold tln at *; omega, bq2, rq2, ⟨pq.1, ⟨by omega, by omega⟩, rp2⟩⟩) (lv_sub hl [2, 3, 4, 5, 6] rfl))

set_option maxRecDepth 100000 in
set_option maxHeartbeats 4000000 in
theorem lc_3 {p : Program} {l : Launch} {e : Env} {s : State} {m : MethodId} {below : List Frame} {meth : Method} {c : Code} {b L : Nat} {xs : Nat → Int32} {D : DD} {G : Nat → Nat} {H : Heap} {locs : List Loc} {ls : Array Slot} {i : Int32} {k x mo o : Nat} {Q : State → Prop} (hl0 : l.stackTraces = false) (C : Cx D G p s m #[.ref b] meth c RL code 7) (hX : va_X b L xs s s.heap) (hbl : b < s.heap.size) (I : Iv D G s.heap H locs x mo o) (tp : tln D H x = (fI D H 11 mo 9).toInt ∧ BQ D H x mo ∧ RQ D H x ∧ VQ D H x mo) (hi : 0 ≤ i.toInt ∧ i.toInt + 6 ≤ L) (hL : L ≤ 3072) (hk : k ≤ 511) (hl : lv_has ls 7 [(0, .ref b), (1, .ref x), (2, .ref mo), (3, .ref o), (4, .int i)])
    (Fin : ∀ G' H' locs' ls', Iv D G' s.heap H' locs' x mo o → tln D H' x = (fI D H' 11 mo 9).toInt ∧ BQ D H' x mo ∧ RQ D H' x ∧ VQ D H' x mo → lv_has ls' 7 [(0, .ref b), (1, .ref x), (2, .ref mo), (3, .ref o), (4, .int i)] → W p l e room_1 s m #[.ref b] below meth c H' locs' (450 + 5 * k + 5) (30000 + 455 * k + 455) Q (F0 m 1653 ls' [])) : W p l e room_1 s m #[.ref b] below meth c H locs (450 + 5 * k) (30000 + 455 * k) Q (F0 m 354 ls []) := by
  have hx := C.1
  have hb := C.2.1
  have hbA : ¬ s.heap.size ≤ b := by omega
  have tp0 := tp
  obtain ⟨tp, bq0, rq0, vq0⟩ := tp
  obtain ⟨⟨V, K, ci0, mi0, pv0, pk0⟩, ⟨wf0, if0⟩, rp0⟩ := vq0
  refine lv_aload_n hx hb dL_law__354 rfl (lv_at hl 1 rfl) ?_
  refine lv_aload_n hx hb dL_law__355 rfl (lv_at hl 3 rfl) ?_
  refine l_W (As := [.ref x, .ref o]) hl0 C I (c_L_law l D G x o (tT D H (fR D H 10 x 0)) I.2.1.1 I.2.1.2.2) kw_137 ⟨rfl, rq0.1, rq0.2⟩ (by decide +kernel) (by decide +kernel) dL_law__356 hl.1 cdL_law ⟨Nat.le_of_ble_eq_true rfl, Nat.le_of_ble_eq_true rfl, (by show 450 + 5 * k + 5 ≤ 601024; omega), (by show 30000 + 455 * k + 455 ≤ 7293034; omega), Nat.le_of_ble_eq_true rfl⟩ (fun r1 G1 H1 L1 I1 C m1 t1 K1 => ?_)
  have m1 := congrArg Int32.toInt m1
  obtain ⟨t1, qw1, pz1⟩ := t1
  have a8_1 : (fI D H1 10 x 8).toInt = (fI D H 10 x 8).toInt := ko_x K1 I.2.1.1 (by decide) (by decide +kernel)
  have b4_1 : (fI D H1 11 mo 14).toInt = (fI D H 11 mo 14).toInt := ko_m K1 I.2.1.2.1 (by decide) (by decide +kernel)
  have b6_1 : (fI D H1 11 mo 6).toInt = (fI D H 11 mo 6).toInt := ko_m K1 I.2.1.2.1 (by decide) (by decide +kernel)
  have rp1 : RP6 D H1 x := rp0.keep I.1 I.2.1.1 K1 (by decide +kernel)
  have mi1 := mi0.keepO I.1 I.2.1.2.1 I.2.1.2.2 I.2.2.1.lt K1
  have ci1 := ci0.lawO I.1 I.2.1.1 I.2.1.2.2 I.2.2.1.lt K1 pz1
  have bq1 : BQ D H1 x mo := bq0.keep I.1 I.2.1.1 I.2.1.2.1 K1 (by decide +kernel) (by decide +kernel)
  have rq1 : RQ D H1 x := rq0.keep I.1 I.2.1.1 K1 (by decide +kernel)
  have t1 : tln D H1 x = 0 := t1
  refine lv_istore (lv' := [(5, .int r1), (0, .ref b), (1, .ref x), (2, .ref mo), (3, .ref o), (4, .int i)]) hx hb dL_law__359 hl (by decide) rfl (fun ls hl => ?_)
  refine lv_aload_n hx hb dL_law__361 rfl (lv_at hl 3 rfl) ?_
  refine l_E (T := TX12) (As := []) C I1 (c_X12_law l D G1 mo (tT D H (fR D H 10 x 0)) I1.2.1.2.1) kV_L_139 I1.2.1.2.1 ((tM_keep I.1 I.2.1.2.1 K1 (by decide +kernel) (by decide +kernel)).trans (tq_eq bq0 tp).symm) (by decide +kernel) dL_law__362 hl.1 rfl rfl (by decide) cd_X12_law ⟨Nat.le_of_ble_eq_true rfl, Nat.le_of_ble_eq_true rfl, (by show 450 + 5 * k + 5 ≤ 601024; omega), (by show 30000 + 455 * k + 455 ≤ 7293034; omega), Nat.le_of_ble_eq_true rfl⟩ (fun v2 H2 L2 I2 K2 q2 => ?_)
  have t2 : tln D H2 x = tln D H1 x := tlW I1.1 I1.2.1.1 K2 (by decide +kernel) (by decide +kernel)
  have bq2 : BQ D H2 x mo := bq1.keep I1.1 I1.2.1.1 I1.2.1.2.1 (Keep.o K2 o) (by decide +kernel) (by decide +kernel)
  have rq2 : RQ D H2 x := rq1.keep I1.1 I1.2.1.1 (Keep.o K2 o) (by decide +kernel)
  have a9_2 : (fI D H2 10 x 9).toInt = (fI D H1 10 x 9).toInt := ko_x (Keep.o K2 o) I1.2.1.1 (by decide) (by decide +kernel)
  have a8_2 : (fI D H2 10 x 8).toInt = (fI D H1 10 x 8).toInt := ko_x (Keep.o K2 o) I1.2.1.1 (by decide) (by decide +kernel)
  have b6_2 : (fI D H2 11 mo 6).toInt = (fI D H1 11 mo 6).toInt := ko_m (Keep.o K2 o) I1.2.1.2.1 (by decide) (by decide +kernel)
  have rp2 : RP6 D H2 x := rp1.keep I1.1 I1.2.1.1 (Keep.o K2 o) (by decide +kernel)
  have ci2 := ci1.keep I1.1 I1.2.1.1 K2 (by decide +kernel)
  obtain ⟨r2, rfl, q2⟩ := q2
  have kq : r1.toInt = (fI D H2 11 mo 0).toInt := law_k qw1 q2.2
  have nq : r1.toInt = 0 → (eL H2 o).toInt = r2.toInt := fun h9 => law_n (eo := eL_keep K2 I1.2.1.2.2 (by have := I1.2.2.1; exact this)) qw1 q2.2 h9
  have mi2 := mi1.law I1.1 I1.2.1.2.1 K2 q2.1.2
  have wfq : (fI D H1 10 x 9).toInt = (fI D H2 11 mo 14).toInt := law_w qw1 q2.2
  refine lv_istore (lv' := [(6, .int r2), (5, .int r1), (0, .ref b), (1, .ref x), (2, .ref mo), (3, .ref o), (4, .int i)]) hx hb dL_law__365 hl (by decide) rfl (fun ls hl => ?_)
  refine lv_goto (tgt := 1653) hx hb dL_law__367 (by decide) ?_
  exact W.widen (by show 450 + 5 * k + 5 ≤ 450 + 5 * k + 5; omega) (by show 30000 + 455 * k + 455 ≤ 30000 + 455 * k + 455; omega) (Fin _ _ _ _ I2 (⟨by unfold tln at *; omega, bq2, rq2, ⟨⟨V, K, ci2, mi2, pv0, fun h9 => pk0 (by omega)⟩, ⟨by omega, by omega⟩, rp2⟩⟩) (lv_sub hl [2, 3, 4, 5, 6] rfl))

set_option maxRecDepth 100000 in
set_option maxHeartbeats 4000000 in
theorem lc_4 {p : Program} {l : Launch} {e : Env} {s : State} {m : MethodId} {below : List Frame} {meth : Method} {c : Code} {b L : Nat} {xs : Nat → Int32} {D : DD} {G : Nat → Nat} {H : Heap} {locs : List Loc} {ls : Array Slot} {i : Int32} {k x mo o : Nat} {Q : State → Prop} (hl0 : l.stackTraces = false) (C : Cx D G p s m #[.ref b] meth c RL code 7) (hX : va_X b L xs s s.heap) (hbl : b < s.heap.size) (I : Iv D G s.heap H locs x mo o) (tp : tln D H x = (fI D H 11 mo 9).toInt ∧ BQ D H x mo ∧ RQ D H x ∧ VQ D H x mo) (hi : 0 ≤ i.toInt ∧ i.toInt + 6 ≤ L) (hL : L ≤ 3072) (hk : k ≤ 511) (hl : lv_has ls 7 [(0, .ref b), (1, .ref x), (2, .ref mo), (3, .ref o), (4, .int i)])
    (Fin : ∀ G' H' locs' ls', Iv D G' s.heap H' locs' x mo o → tln D H' x = (fI D H' 11 mo 9).toInt ∧ BQ D H' x mo ∧ RQ D H' x ∧ VQ D H' x mo → lv_has ls' 7 [(0, .ref b), (1, .ref x), (2, .ref mo), (3, .ref o), (4, .int i)] → W p l e room_1 s m #[.ref b] below meth c H' locs' (450 + 5 * k + 5) (30000 + 455 * k + 455) Q (F0 m 1653 ls' [])) : W p l e room_1 s m #[.ref b] below meth c H locs (450 + 5 * k) (30000 + 455 * k) Q (F0 m 370 ls []) := by
  have hx := C.1
  have hb := C.2.1
  have hbA : ¬ s.heap.size ≤ b := by omega
  have tp0 := tp
  obtain ⟨tp, bq0, rq0, vq0⟩ := tp
  obtain ⟨⟨V, K, ci0, mi0, pv0, pk0⟩, ⟨wf0, if0⟩, rp0⟩ := vq0
  refine lv_aload_n hx hb dL_law__370 rfl (lv_at hl 1 rfl) ?_
  refine callV_P (T := TX11) (As := []) C I.1 (fun q h1 _ => (I.2.2.2.2.1 q h1).2) (c_X11_fault l D G x I.2.1.1) kV_L_140 I.2.1.1 trivial dL_law__371 hl.1 rfl rfl (by decide) cd_X11_fault ⟨Nat.le_of_ble_eq_true rfl, Nat.le_of_ble_eq_true rfl, (by show 450 + 5 * k ≤ 601024; omega), (by show 30000 + 455 * k ≤ 7293034; omega), Nat.le_of_ble_eq_true rfl⟩ (fun v1 q1 => ?_)
  obtain ⟨r1, rfl, q1⟩ := q1
  refine lv_pop hx hb dL_law__374 rfl ?_
  refine lv_aload_n hx hb dL_law__375 rfl (lv_at hl 2 rfl) ?_
  refine l_E (T := TX12) (As := []) C I (c_X12_fault l D G mo I.2.1.2.1) kV_L_143 I.2.1.2.1 trivial (by decide +kernel) dL_law__376 hl.1 rfl rfl (by decide) cd_X12_fault ⟨Nat.le_of_ble_eq_true rfl, Nat.le_of_ble_eq_true rfl, (by show 450 + 5 * k ≤ 601024; omega), (by show 30000 + 455 * k ≤ 7293034; omega), Nat.le_of_ble_eq_true rfl⟩ (fun v2 H2 L2 I2 K2 q2 => ?_)
  have t2 : tln D H2 x = tln D H x := tlW I.1 I.2.1.1 K2 (by decide +kernel) (by decide +kernel)
  have m2 : (fI D H2 11 mo 9).toInt = (fI D H 11 mo 9).toInt := congrArg Int32.toInt (K2.fI I.2.1.2.1 rfl (by decide) (by decide +kernel))
  have bq2 : BQ D H2 x mo := bq0.keep I.1 I.2.1.1 I.2.1.2.1 (Keep.o K2 o) (by decide +kernel) (by decide +kernel)
  have rq2 : RQ D H2 x := rq0.keep I.1 I.2.1.1 (Keep.o K2 o) (by decide +kernel)
  have a9_2 : (fI D H2 10 x 9).toInt = (fI D H 10 x 9).toInt := ko_x (Keep.o K2 o) I.2.1.1 (by decide) (by decide +kernel)
  have a8_2 : (fI D H2 10 x 8).toInt = (fI D H 10 x 8).toInt := ko_x (Keep.o K2 o) I.2.1.1 (by decide) (by decide +kernel)
  have b4_2 : (fI D H2 11 mo 14).toInt = (fI D H 11 mo 14).toInt := ko_m (Keep.o K2 o) I.2.1.2.1 (by decide) (by decide +kernel)
  have b6_2 : (fI D H2 11 mo 6).toInt = (fI D H 11 mo 6).toInt := ko_m (Keep.o K2 o) I.2.1.2.1 (by decide) (by decide +kernel)
  have rp2 : RP6 D H2 x := rp0.keep I.1 I.2.1.1 (Keep.o K2 o) (by decide +kernel)
  have ci2 := ci0.keep I.1 I.2.1.1 K2 (by decide +kernel)
  have mi2 := mi0.keep I.1 I.2.1.2.1 K2 (by decide +kernel)
  obtain ⟨r2, rfl, q2⟩ := q2
  refine lv_pop hx hb dL_law__379 rfl ?_
  refine lv_goto (tgt := 1653) hx hb dL_law__380 (by decide) ?_
  exact W.widen (by show 450 + 5 * k ≤ 450 + 5 * k + 5; omega) (by show 30000 + 455 * k ≤ 30000 + 455 * k + 455; omega) (Fin _ _ _ _ I2 (⟨by unfold tln at *; omega, bq2, rq2, ⟨⟨V, K, ci2, mi2, pv0, fun h9 => pk0 (by omega)⟩, ⟨by omega, by omega⟩, rp2⟩⟩) (lv_sub hl [0, 1, 2, 3, 4] rfl))

set_option maxRecDepth 100000 in
set_option maxHeartbeats 4000000 in
theorem lc_5 {p : Program} {l : Launch} {e : Env} {s : State} {m : MethodId} {below : List Frame} {meth : Method} {c : Code} {b L : Nat} {xs : Nat → Int32} {D : DD} {G : Nat → Nat} {H : Heap} {locs : List Loc} {ls : Array Slot} {i : Int32} {k x mo o : Nat} {Q : State → Prop} (hl0 : l.stackTraces = false) (C : Cx D G p s m #[.ref b] meth c RL code 7) (hX : va_X b L xs s s.heap) (hbl : b < s.heap.size) (I : Iv D G s.heap H locs x mo o) (tp : tln D H x = (fI D H 11 mo 9).toInt ∧ BQ D H x mo ∧ RQ D H x ∧ VQ D H x mo) (hi : 0 ≤ i.toInt ∧ i.toInt + 6 ≤ L) (hL : L ≤ 3072) (hk : k ≤ 511) (hl : lv_has ls 7 [(0, .ref b), (1, .ref x), (2, .ref mo), (3, .ref o), (4, .int i)])
    (Fin : ∀ G' H' locs' ls', Iv D G' s.heap H' locs' x mo o → tln D H' x = (fI D H' 11 mo 9).toInt ∧ BQ D H' x mo ∧ RQ D H' x ∧ VQ D H' x mo → lv_has ls' 7 [(0, .ref b), (1, .ref x), (2, .ref mo), (3, .ref o), (4, .int i)] → W p l e room_1 s m #[.ref b] below meth c H' locs' (450 + 5 * k + 5) (30000 + 455 * k + 455) Q (F0 m 1653 ls' [])) : W p l e room_1 s m #[.ref b] below meth c H locs (450 + 5 * k) (30000 + 455 * k) Q (F0 m 383 ls []) := by
  have hx := C.1
  have hb := C.2.1
  have hbA : ¬ s.heap.size ≤ b := by omega
  have tp0 := tp
  obtain ⟨tp, bq0, rq0, vq0⟩ := tp
  obtain ⟨⟨V, K, ci0, mi0, pv0, pk0⟩, ⟨wf0, if0⟩, rp0⟩ := vq0
  refine lv_aload_n hx hb dL_law__383 rfl (lv_at hl 1 rfl) ?_
  refine lv_aload_n hx hb dL_law__384 rfl (lv_at hl 0 rfl) ?_
  refine lv_iload hx hb dL_law__385 (lv_at hl 4 rfl) ?_
  refine lv_iconst (v := 1) hx hb dL_law__387 (by decide) ?_
  refine lv_iadd hx hb dL_law__388 ?_
  refine lv_topi (fun v1 ev1 => ?_)
  have kv1 : (1 : Int32).toInt = 1 := by decide
  have fv1 : v1.toInt = i.toInt + 1 := by rw [ev1]; exact i_addc kv1 (by omega) (by omega)
  refine va_sld (A := fun q => s.heap.size ≤ q) hx hb hX hbl hbA I.S (i_vin (by omega) (by omega)) dL_law__389 ?_
  refine lv_topi (fun v2 ev2 => ?_)
  refine lv_aload_n hx hb dL_law__390 rfl (lv_at hl 0 rfl) ?_
  refine lv_iload hx hb dL_law__391 (lv_at hl 4 rfl) ?_
  refine lv_iconst (v := 2) hx hb dL_law__393 (by decide) ?_
  refine lv_iadd hx hb dL_law__394 ?_
  refine lv_topi (fun v3 ev3 => ?_)
  have kv3 : (2 : Int32).toInt = 2 := by decide
  have fv3 : v3.toInt = i.toInt + 2 := by rw [ev3]; exact i_addc kv3 (by omega) (by omega)
  refine va_sld (A := fun q => s.heap.size ≤ q) hx hb hX hbl hbA I.S (i_vin (by omega) (by omega)) dL_law__395 ?_
  refine lv_topi (fun v4 ev4 => ?_)
  refine lv_aload_n hx hb dL_law__396 rfl (lv_at hl 3 rfl) ?_
  refine l_W (As := [.ref x, .int v2, .int v4, .ref o]) hl0 C I (c_L_house l D G x v2 v4 o I.2.1.1 I.2.1.2.2) kw_144 trivial (by decide +kernel) (by decide +kernel) dL_law__397 hl.1 cdL_house ⟨Nat.le_of_ble_eq_true rfl, Nat.le_of_ble_eq_true rfl, (by show 450 + 5 * k + 2 ≤ 601024; omega), (by show 30000 + 455 * k + 12 ≤ 7293034; omega), Nat.le_of_ble_eq_true rfl⟩ (fun r5 G5 H5 L5 I5 C m5 t5 K5 => ?_)
  have m5 := congrArg Int32.toInt m5
  have a9_5 : (fI D H5 10 x 9).toInt = (fI D H 10 x 9).toInt := ko_x K5 I.2.1.1 (by decide) (by decide +kernel)
  have a8_5 : (fI D H5 10 x 8).toInt = (fI D H 10 x 8).toInt := ko_x K5 I.2.1.1 (by decide) (by decide +kernel)
  have b4_5 : (fI D H5 11 mo 14).toInt = (fI D H 11 mo 14).toInt := ko_m K5 I.2.1.2.1 (by decide) (by decide +kernel)
  have b6_5 : (fI D H5 11 mo 6).toInt = (fI D H 11 mo 6).toInt := ko_m K5 I.2.1.2.1 (by decide) (by decide +kernel)
  have rp5 : RP6 D H5 x := rp0.keep I.1 I.2.1.1 K5 (by decide +kernel)
  have ci5 := ci0.keepO I.1 I.2.1.1 I.2.1.2.2 I.2.2.1.lt K5
  have mi5 := mi0.keepO I.1 I.2.1.2.1 I.2.1.2.2 I.2.2.1.lt K5
  have bq5 : BQ D H5 x mo := bq0.keep I.1 I.2.1.1 I.2.1.2.1 K5 (by decide +kernel) (by decide +kernel)
  have rq5 : RQ D H5 x := rq0.keep I.1 I.2.1.1 K5 (by decide +kernel)
  have t5 : tln D H5 x = tln D H x := t5
  refine lv_istore (lv' := [(5, .int r5), (0, .ref b), (1, .ref x), (2, .ref mo), (3, .ref o), (4, .int i)]) hx hb dL_law__400 hl (by decide) rfl (fun ls hl => ?_)
  refine lv_aload_n hx hb dL_law__402 rfl (lv_at hl 3 rfl) ?_
  refine lv_aload_n hx hb dL_law__403 rfl (lv_at hl 1 rfl) ?_
  refine lv_iload hx hb dL_law__404 (lv_at hl 5 rfl) ?_
  refine lv_iconst (v := 1) hx hb dL_law__406 (by decide) ?_
  refine lv_iadd hx hb dL_law__407 ?_
  refine lv_topi (fun v6 ev6 => ?_)
  have kv6 : (1 : Int32).toInt = 1 := by decide
  have fv6 : v6.toInt = i.toInt + 1 := by rw [ev6]; exact i_addc kv6 (by omega) (by omega)
  refine va_sld (A := fun q => s.heap.size ≤ q) hx hb hX hbl hbA I5.S (i_vin (by omega) (by omega)) dL_law__408 ?_
  refine lv_topi (fun v7 ev7 => ?_)
  refine lv_aload_n hx hb dL_law__409 rfl (lv_at hl 1 rfl) ?_
  refine lv_iload hx hb dL_law__410 (lv_at hl 5 rfl) ?_
  refine lv_iconst (v := 2) hx hb dL_law__412 (by decide) ?_
  refine lv_iadd hx hb dL_law__413 ?_
  refine lv_topi (fun v8 ev8 => ?_)
  have kv8 : (2 : Int32).toInt = 2 := by decide
  have fv8 : v8.toInt = i.toInt + 2 := by rw [ev8]; exact i_addc kv8 (by omega) (by omega)
  refine va_sld (A := fun q => s.heap.size ≤ q) hx hb hX hbl hbA I5.S (i_vin (by omega) (by omega)) dL_law__414 ?_
  refine lv_topi (fun v9 ev9 => ?_)
  refine l_E (T := TX12) (As := [.int v7, .int v9]) C I5 (c_X12_house l D G5 mo v7 v9 I5.2.1.2.1) kV_L_147 I5.2.1.2.1 trivial (by decide +kernel) dL_law__415 hl.1 rfl rfl (by decide) cd_X12_house ⟨Nat.le_of_ble_eq_true rfl, Nat.le_of_ble_eq_true rfl, (by show 450 + 5 * k + 2 ≤ 601024; omega), (by show 30000 + 455 * k + 12 ≤ 7293034; omega), Nat.le_of_ble_eq_true rfl⟩ (fun v10 H10 L10 I10 K10 q10 => ?_)
  have t10 : tln D H10 x = tln D H5 x := tlW I5.1 I5.2.1.1 K10 (by decide +kernel) (by decide +kernel)
  have m10 : (fI D H10 11 mo 9).toInt = (fI D H5 11 mo 9).toInt := congrArg Int32.toInt (K10.fI I5.2.1.2.1 rfl (by decide) (by decide +kernel))
  have bq10 : BQ D H10 x mo := bq5.keep I5.1 I5.2.1.1 I5.2.1.2.1 (Keep.o K10 o) (by decide +kernel) (by decide +kernel)
  have rq10 : RQ D H10 x := rq5.keep I5.1 I5.2.1.1 (Keep.o K10 o) (by decide +kernel)
  have a9_10 : (fI D H10 10 x 9).toInt = (fI D H5 10 x 9).toInt := ko_x (Keep.o K10 o) I5.2.1.1 (by decide) (by decide +kernel)
  have a8_10 : (fI D H10 10 x 8).toInt = (fI D H5 10 x 8).toInt := ko_x (Keep.o K10 o) I5.2.1.1 (by decide) (by decide +kernel)
  have b4_10 : (fI D H10 11 mo 14).toInt = (fI D H5 11 mo 14).toInt := ko_m (Keep.o K10 o) I5.2.1.2.1 (by decide) (by decide +kernel)
  have b6_10 : (fI D H10 11 mo 6).toInt = (fI D H5 11 mo 6).toInt := ko_m (Keep.o K10 o) I5.2.1.2.1 (by decide) (by decide +kernel)
  have rp10 : RP6 D H10 x := rp5.keep I5.1 I5.2.1.1 (Keep.o K10 o) (by decide +kernel)
  have ci10 := ci5.keep I5.1 I5.2.1.1 K10 (by decide +kernel)
  have mi10 := mi5.keep I5.1 I5.2.1.2.1 K10 (by decide +kernel)
  obtain ⟨r10, rfl, q10⟩ := q10
  refine lv_istore (lv' := [(6, .int r10), (5, .int r5), (0, .ref b), (1, .ref x), (2, .ref mo), (3, .ref o), (4, .int i)]) hx hb dL_law__418 hl (by decide) rfl (fun ls hl => ?_)
  refine lv_goto (tgt := 1653) hx hb dL_law__420 (by decide) ?_
  exact W.widen (by show 450 + 5 * k + 2 ≤ 450 + 5 * k + 5; omega) (by show 30000 + 455 * k + 12 ≤ 30000 + 455 * k + 455; omega) (Fin _ _ _ _ I10 (⟨by unfold tln at *; omega, bq10, rq10, ⟨⟨V, K, ci10, mi10, pv0, fun h9 => pk0 (by omega)⟩, ⟨by omega, by omega⟩, rp10⟩⟩) (lv_sub hl [2, 3, 4, 5, 6] rfl))

set_option maxRecDepth 100000 in
set_option maxHeartbeats 4000000 in
theorem lc_6 {p : Program} {l : Launch} {e : Env} {s : State} {m : MethodId} {below : List Frame} {meth : Method} {c : Code} {b L : Nat} {xs : Nat → Int32} {D : DD} {G : Nat → Nat} {H : Heap} {locs : List Loc} {ls : Array Slot} {i : Int32} {k x mo o : Nat} {Q : State → Prop} (hl0 : l.stackTraces = false) (C : Cx D G p s m #[.ref b] meth c RL code 7) (hX : va_X b L xs s s.heap) (hbl : b < s.heap.size) (I : Iv D G s.heap H locs x mo o) (tp : tln D H x = (fI D H 11 mo 9).toInt ∧ BQ D H x mo ∧ RQ D H x ∧ VQ D H x mo) (hi : 0 ≤ i.toInt ∧ i.toInt + 6 ≤ L) (hL : L ≤ 3072) (hk : k ≤ 511) (hl : lv_has ls 7 [(0, .ref b), (1, .ref x), (2, .ref mo), (3, .ref o), (4, .int i)])
    (Fin : ∀ G' H' locs' ls', Iv D G' s.heap H' locs' x mo o → tln D H' x = (fI D H' 11 mo 9).toInt ∧ BQ D H' x mo ∧ RQ D H' x ∧ VQ D H' x mo → lv_has ls' 7 [(0, .ref b), (1, .ref x), (2, .ref mo), (3, .ref o), (4, .int i)] → W p l e room_1 s m #[.ref b] below meth c H' locs' (450 + 5 * k + 5) (30000 + 455 * k + 455) Q (F0 m 1653 ls' [])) : W p l e room_1 s m #[.ref b] below meth c H locs (450 + 5 * k) (30000 + 455 * k) Q (F0 m 423 ls []) := by
  have hx := C.1
  have hb := C.2.1
  have hbA : ¬ s.heap.size ≤ b := by omega
  have tp0 := tp
  obtain ⟨tp, bq0, rq0, vq0⟩ := tp
  obtain ⟨⟨V, K, ci0, mi0, pv0, pk0⟩, ⟨wf0, if0⟩, rp0⟩ := vq0
  refine lv_aload_n hx hb dL_law__423 rfl (lv_at hl 1 rfl) ?_
  refine lv_aload_n hx hb dL_law__424 rfl (lv_at hl 0 rfl) ?_
  refine lv_iload hx hb dL_law__425 (lv_at hl 4 rfl) ?_
  refine lv_iconst (v := 1) hx hb dL_law__427 (by decide) ?_
  refine lv_iadd hx hb dL_law__428 ?_
  refine lv_topi (fun v1 ev1 => ?_)
  have kv1 : (1 : Int32).toInt = 1 := by decide
  have fv1 : v1.toInt = i.toInt + 1 := by rw [ev1]; exact i_addc kv1 (by omega) (by omega)
  refine va_sld (A := fun q => s.heap.size ≤ q) hx hb hX hbl hbA I.S (i_vin (by omega) (by omega)) dL_law__429 ?_
  refine lv_topi (fun v2 ev2 => ?_)
  refine lv_aload_n hx hb dL_law__430 rfl (lv_at hl 0 rfl) ?_
  refine lv_iload hx hb dL_law__431 (lv_at hl 4 rfl) ?_
  refine lv_iconst (v := 2) hx hb dL_law__433 (by decide) ?_
  refine lv_iadd hx hb dL_law__434 ?_
  refine lv_topi (fun v3 ev3 => ?_)
  have kv3 : (2 : Int32).toInt = 2 := by decide
  have fv3 : v3.toInt = i.toInt + 2 := by rw [ev3]; exact i_addc kv3 (by omega) (by omega)
  refine va_sld (A := fun q => s.heap.size ≤ q) hx hb hX hbl hbA I.S (i_vin (by omega) (by omega)) dL_law__435 ?_
  refine lv_topi (fun v4 ev4 => ?_)
  refine lv_aload_n hx hb dL_law__436 rfl (lv_at hl 3 rfl) ?_
  refine l_W (As := [.ref x, .int v2, .int v4, .ref o]) hl0 C I (c_L_hearth l D G x v2 v4 o I.2.1.1 I.2.1.2.2) kw_148 trivial (by decide +kernel) (by decide +kernel) dL_law__437 hl.1 cdL_hearth ⟨Nat.le_of_ble_eq_true rfl, Nat.le_of_ble_eq_true rfl, (by show 450 + 5 * k + 2 ≤ 601024; omega), (by show 30000 + 455 * k + 12 ≤ 7293034; omega), Nat.le_of_ble_eq_true rfl⟩ (fun r5 G5 H5 L5 I5 C m5 t5 K5 => ?_)
  have m5 := congrArg Int32.toInt m5
  have a9_5 : (fI D H5 10 x 9).toInt = (fI D H 10 x 9).toInt := ko_x K5 I.2.1.1 (by decide) (by decide +kernel)
  have a8_5 : (fI D H5 10 x 8).toInt = (fI D H 10 x 8).toInt := ko_x K5 I.2.1.1 (by decide) (by decide +kernel)
  have b4_5 : (fI D H5 11 mo 14).toInt = (fI D H 11 mo 14).toInt := ko_m K5 I.2.1.2.1 (by decide) (by decide +kernel)
  have b6_5 : (fI D H5 11 mo 6).toInt = (fI D H 11 mo 6).toInt := ko_m K5 I.2.1.2.1 (by decide) (by decide +kernel)
  have rp5 : RP6 D H5 x := rp0.keep I.1 I.2.1.1 K5 (by decide +kernel)
  have ci5 := ci0.keepO I.1 I.2.1.1 I.2.1.2.2 I.2.2.1.lt K5
  have mi5 := mi0.keepO I.1 I.2.1.2.1 I.2.1.2.2 I.2.2.1.lt K5
  have bq5 : BQ D H5 x mo := bq0.keep I.1 I.2.1.1 I.2.1.2.1 K5 (by decide +kernel) (by decide +kernel)
  have rq5 : RQ D H5 x := rq0.keep I.1 I.2.1.1 K5 (by decide +kernel)
  have t5 : tln D H5 x = tln D H x := t5
  refine lv_istore (lv' := [(5, .int r5), (0, .ref b), (1, .ref x), (2, .ref mo), (3, .ref o), (4, .int i)]) hx hb dL_law__440 hl (by decide) rfl (fun ls hl => ?_)
  refine lv_aload_n hx hb dL_law__442 rfl (lv_at hl 3 rfl) ?_
  refine lv_aload_n hx hb dL_law__443 rfl (lv_at hl 1 rfl) ?_
  refine lv_iload hx hb dL_law__444 (lv_at hl 5 rfl) ?_
  refine lv_iconst (v := 1) hx hb dL_law__446 (by decide) ?_
  refine lv_iadd hx hb dL_law__447 ?_
  refine lv_topi (fun v6 ev6 => ?_)
  have kv6 : (1 : Int32).toInt = 1 := by decide
  have fv6 : v6.toInt = i.toInt + 1 := by rw [ev6]; exact i_addc kv6 (by omega) (by omega)
  refine va_sld (A := fun q => s.heap.size ≤ q) hx hb hX hbl hbA I5.S (i_vin (by omega) (by omega)) dL_law__448 ?_
  refine lv_topi (fun v7 ev7 => ?_)
  refine lv_aload_n hx hb dL_law__449 rfl (lv_at hl 1 rfl) ?_
  refine lv_iload hx hb dL_law__450 (lv_at hl 5 rfl) ?_
  refine lv_iconst (v := 2) hx hb dL_law__452 (by decide) ?_
  refine lv_iadd hx hb dL_law__453 ?_
  refine lv_topi (fun v8 ev8 => ?_)
  have kv8 : (2 : Int32).toInt = 2 := by decide
  have fv8 : v8.toInt = i.toInt + 2 := by rw [ev8]; exact i_addc kv8 (by omega) (by omega)
  refine va_sld (A := fun q => s.heap.size ≤ q) hx hb hX hbl hbA I5.S (i_vin (by omega) (by omega)) dL_law__454 ?_
  refine lv_topi (fun v9 ev9 => ?_)
  refine l_E (T := TX12) (As := [.int v7, .int v9]) C I5 (c_X12_hearth l D G5 mo v7 v9 I5.2.1.2.1) kV_L_150 I5.2.1.2.1 trivial (by decide +kernel) dL_law__455 hl.1 rfl rfl (by decide) cd_X12_hearth ⟨Nat.le_of_ble_eq_true rfl, Nat.le_of_ble_eq_true rfl, (by show 450 + 5 * k + 2 ≤ 601024; omega), (by show 30000 + 455 * k + 12 ≤ 7293034; omega), Nat.le_of_ble_eq_true rfl⟩ (fun v10 H10 L10 I10 K10 q10 => ?_)
  have t10 : tln D H10 x = tln D H5 x := tlW I5.1 I5.2.1.1 K10 (by decide +kernel) (by decide +kernel)
  have m10 : (fI D H10 11 mo 9).toInt = (fI D H5 11 mo 9).toInt := congrArg Int32.toInt (K10.fI I5.2.1.2.1 rfl (by decide) (by decide +kernel))
  have bq10 : BQ D H10 x mo := bq5.keep I5.1 I5.2.1.1 I5.2.1.2.1 (Keep.o K10 o) (by decide +kernel) (by decide +kernel)
  have rq10 : RQ D H10 x := rq5.keep I5.1 I5.2.1.1 (Keep.o K10 o) (by decide +kernel)
  have a9_10 : (fI D H10 10 x 9).toInt = (fI D H5 10 x 9).toInt := ko_x (Keep.o K10 o) I5.2.1.1 (by decide) (by decide +kernel)
  have a8_10 : (fI D H10 10 x 8).toInt = (fI D H5 10 x 8).toInt := ko_x (Keep.o K10 o) I5.2.1.1 (by decide) (by decide +kernel)
  have b4_10 : (fI D H10 11 mo 14).toInt = (fI D H5 11 mo 14).toInt := ko_m (Keep.o K10 o) I5.2.1.2.1 (by decide) (by decide +kernel)
  have b6_10 : (fI D H10 11 mo 6).toInt = (fI D H5 11 mo 6).toInt := ko_m (Keep.o K10 o) I5.2.1.2.1 (by decide) (by decide +kernel)
  have rp10 : RP6 D H10 x := rp5.keep I5.1 I5.2.1.1 (Keep.o K10 o) (by decide +kernel)
  have ci10 := ci5.keep I5.1 I5.2.1.1 K10 (by decide +kernel)
  have mi10 := mi5.keep I5.1 I5.2.1.2.1 K10 (by decide +kernel)
  obtain ⟨r10, rfl, q10⟩ := q10
  refine lv_istore (lv' := [(6, .int r10), (5, .int r5), (0, .ref b), (1, .ref x), (2, .ref mo), (3, .ref o), (4, .int i)]) hx hb dL_law__458 hl (by decide) rfl (fun ls hl => ?_)
  refine lv_goto (tgt := 1653) hx hb dL_law__460 (by decide) ?_
  exact W.widen (by show 450 + 5 * k + 2 ≤ 450 + 5 * k + 5; omega) (by show 30000 + 455 * k + 12 ≤ 30000 + 455 * k + 455; omega) (Fin _ _ _ _ I10 (⟨by unfold tln at *; omega, bq10, rq10, ⟨⟨V, K, ci10, mi10, pv0, fun h9 => pk0 (by omega)⟩, ⟨by omega, by omega⟩, rp10⟩⟩) (lv_sub hl [2, 3, 4, 5, 6] rfl))

set_option maxRecDepth 100000 in
set_option maxHeartbeats 4000000 in
theorem lc_7 {p : Program} {l : Launch} {e : Env} {s : State} {m : MethodId} {below : List Frame} {meth : Method} {c : Code} {b L : Nat} {xs : Nat → Int32} {D : DD} {G : Nat → Nat} {H : Heap} {locs : List Loc} {ls : Array Slot} {i : Int32} {k x mo o : Nat} {Q : State → Prop} (hl0 : l.stackTraces = false) (C : Cx D G p s m #[.ref b] meth c RL code 7) (hX : va_X b L xs s s.heap) (hbl : b < s.heap.size) (I : Iv D G s.heap H locs x mo o) (tp : tln D H x = (fI D H 11 mo 9).toInt ∧ BQ D H x mo ∧ RQ D H x ∧ VQ D H x mo) (hi : 0 ≤ i.toInt ∧ i.toInt + 6 ≤ L) (hL : L ≤ 3072) (hk : k ≤ 511) (hl : lv_has ls 7 [(0, .ref b), (1, .ref x), (2, .ref mo), (3, .ref o), (4, .int i)])
    (Fin : ∀ G' H' locs' ls', Iv D G' s.heap H' locs' x mo o → tln D H' x = (fI D H' 11 mo 9).toInt ∧ BQ D H' x mo ∧ RQ D H' x ∧ VQ D H' x mo → lv_has ls' 7 [(0, .ref b), (1, .ref x), (2, .ref mo), (3, .ref o), (4, .int i)] → W p l e room_1 s m #[.ref b] below meth c H' locs' (450 + 5 * k + 5) (30000 + 455 * k + 455) Q (F0 m 1653 ls' [])) : W p l e room_1 s m #[.ref b] below meth c H locs (450 + 5 * k) (30000 + 455 * k) Q (F0 m 463 ls []) := by
  have hx := C.1
  have hb := C.2.1
  have hbA : ¬ s.heap.size ≤ b := by omega
  have tp0 := tp
  obtain ⟨tp, bq0, rq0, vq0⟩ := tp
  obtain ⟨⟨V, K, ci0, mi0, pv0, pk0⟩, ⟨wf0, if0⟩, rp0⟩ := vq0
  refine lv_aload_n hx hb dL_law__463 rfl (lv_at hl 1 rfl) ?_
  refine lv_aload_n hx hb dL_law__464 rfl (lv_at hl 0 rfl) ?_
  refine lv_iload hx hb dL_law__465 (lv_at hl 4 rfl) ?_
  refine lv_iconst (v := 1) hx hb dL_law__467 (by decide) ?_
  refine lv_iadd hx hb dL_law__468 ?_
  refine lv_topi (fun v1 ev1 => ?_)
  have kv1 : (1 : Int32).toInt = 1 := by decide
  have fv1 : v1.toInt = i.toInt + 1 := by rw [ev1]; exact i_addc kv1 (by omega) (by omega)
  refine va_sld (A := fun q => s.heap.size ≤ q) hx hb hX hbl hbA I.S (i_vin (by omega) (by omega)) dL_law__469 ?_
  refine lv_topi (fun v2 ev2 => ?_)
  refine lv_aload_n hx hb dL_law__470 rfl (lv_at hl 3 rfl) ?_
  refine l_W (As := [.ref x, .int v2, .ref o]) hl0 C I (c_L_wall l D G x v2 o I.2.1.1 I.2.1.2.2) kw_151 trivial (by decide +kernel) (by decide +kernel) dL_law__471 hl.1 cdL_wall ⟨Nat.le_of_ble_eq_true rfl, Nat.le_of_ble_eq_true rfl, (by show 450 + 5 * k + 2 ≤ 601024; omega), (by show 30000 + 455 * k + 12 ≤ 7293034; omega), Nat.le_of_ble_eq_true rfl⟩ (fun r3 G3 H3 L3 I3 C m3 t3 K3 => ?_)
  have m3 := congrArg Int32.toInt m3
  obtain ⟨t3, rw3⟩ := t3
  have a9_3 : (fI D H3 10 x 9).toInt = (fI D H 10 x 9).toInt := ko_x K3 I.2.1.1 (by decide) (by decide +kernel)
  have a8_3 : (fI D H3 10 x 8).toInt = (fI D H 10 x 8).toInt := ko_x K3 I.2.1.1 (by decide) (by decide +kernel)
  have b4_3 : (fI D H3 11 mo 14).toInt = (fI D H 11 mo 14).toInt := ko_m K3 I.2.1.2.1 (by decide) (by decide +kernel)
  have b6_3 : (fI D H3 11 mo 6).toInt = (fI D H 11 mo 6).toInt := ko_m K3 I.2.1.2.1 (by decide) (by decide +kernel)
  have rp3 : RP6 D H3 x := rp0.keep I.1 I.2.1.1 K3 (by decide +kernel)
  have mi3 := mi0.keepO I.1 I.2.1.2.1 I.2.1.2.2 I.2.2.1.lt K3
  have ci3 := rw3 V K ci0
  have bq3 : BQ D H3 x mo := bq0.keep I.1 I.2.1.1 I.2.1.2.1 K3 (by decide +kernel) (by decide +kernel)
  have rq3 : RQ D H3 x := rq0.keep I.1 I.2.1.1 K3 (by decide +kernel)
  have t3 : tln D H3 x = tln D H x := t3
  refine lv_istore (lv' := [(5, .int r3), (0, .ref b), (1, .ref x), (2, .ref mo), (3, .ref o), (4, .int i)]) hx hb dL_law__474 hl (by decide) rfl (fun ls hl => ?_)
  refine lv_aload_n hx hb dL_law__476 rfl (lv_at hl 3 rfl) ?_
  refine lv_aload_n hx hb dL_law__477 rfl (lv_at hl 1 rfl) ?_
  refine lv_iload hx hb dL_law__478 (lv_at hl 5 rfl) ?_
  refine lv_iconst (v := 1) hx hb dL_law__480 (by decide) ?_
  refine lv_iadd hx hb dL_law__481 ?_
  refine lv_topi (fun v4 ev4 => ?_)
  have kv4 : (1 : Int32).toInt = 1 := by decide
  have fv4 : v4.toInt = i.toInt + 1 := by rw [ev4]; exact i_addc kv4 (by omega) (by omega)
  refine va_sld (A := fun q => s.heap.size ≤ q) hx hb hX hbl hbA I3.S (i_vin (by omega) (by omega)) dL_law__482 ?_
  refine lv_topi (fun v5 ev5 => ?_)
  refine l_E (T := TX12) (As := [.int v5]) C I3 (c_X12_wall l D G3 mo v5 I3.2.1.2.1) kV_L_154 I3.2.1.2.1 trivial (by decide +kernel) dL_law__483 hl.1 rfl rfl (by decide) cd_X12_wall ⟨Nat.le_of_ble_eq_true rfl, Nat.le_of_ble_eq_true rfl, (by show 450 + 5 * k + 2 ≤ 601024; omega), (by show 30000 + 455 * k + 12 ≤ 7293034; omega), Nat.le_of_ble_eq_true rfl⟩ (fun v6 H6 L6 I6 K6 q6 => ?_)
  have t6 : tln D H6 x = tln D H3 x := tlW I3.1 I3.2.1.1 K6 (by decide +kernel) (by decide +kernel)
  have m6 : (fI D H6 11 mo 9).toInt = (fI D H3 11 mo 9).toInt := congrArg Int32.toInt (K6.fI I3.2.1.2.1 rfl (by decide) (by decide +kernel))
  have bq6 : BQ D H6 x mo := bq3.keep I3.1 I3.2.1.1 I3.2.1.2.1 (Keep.o K6 o) (by decide +kernel) (by decide +kernel)
  have rq6 : RQ D H6 x := rq3.keep I3.1 I3.2.1.1 (Keep.o K6 o) (by decide +kernel)
  have a9_6 : (fI D H6 10 x 9).toInt = (fI D H3 10 x 9).toInt := ko_x (Keep.o K6 o) I3.2.1.1 (by decide) (by decide +kernel)
  have a8_6 : (fI D H6 10 x 8).toInt = (fI D H3 10 x 8).toInt := ko_x (Keep.o K6 o) I3.2.1.1 (by decide) (by decide +kernel)
  have b4_6 : (fI D H6 11 mo 14).toInt = (fI D H3 11 mo 14).toInt := ko_m (Keep.o K6 o) I3.2.1.2.1 (by decide) (by decide +kernel)
  have b6_6 : (fI D H6 11 mo 6).toInt = (fI D H3 11 mo 6).toInt := ko_m (Keep.o K6 o) I3.2.1.2.1 (by decide) (by decide +kernel)
  have rp6 : RP6 D H6 x := rp3.keep I3.1 I3.2.1.1 (Keep.o K6 o) (by decide +kernel)
  have ci6 := ci3.keep I3.1 I3.2.1.1 K6 (by decide +kernel)
  obtain ⟨r6, rfl, q6⟩ := q6
  have mi6 := q6.2 V K mi3
  refine lv_istore (lv' := [(6, .int r6), (5, .int r3), (0, .ref b), (1, .ref x), (2, .ref mo), (3, .ref o), (4, .int i)]) hx hb dL_law__486 hl (by decide) rfl (fun ls hl => ?_)
  refine lv_goto (tgt := 1653) hx hb dL_law__488 (by decide) ?_
  exact W.widen (by show 450 + 5 * k + 2 ≤ 450 + 5 * k + 5; omega) (by show 30000 + 455 * k + 12 ≤ 30000 + 455 * k + 455; omega) (Fin _ _ _ _ I6 (⟨by unfold tln at *; omega, bq6, rq6, ⟨⟨V, K, ci6, mi6, pv0, fun h9 => pk0 (by omega)⟩, ⟨by omega, by omega⟩, rp6⟩⟩) (lv_sub hl [2, 3, 4, 5, 6] rfl))

set_option maxRecDepth 100000 in
set_option maxHeartbeats 4000000 in
theorem lc_8 {p : Program} {l : Launch} {e : Env} {s : State} {m : MethodId} {below : List Frame} {meth : Method} {c : Code} {b L : Nat} {xs : Nat → Int32} {D : DD} {G : Nat → Nat} {H : Heap} {locs : List Loc} {ls : Array Slot} {i : Int32} {k x mo o : Nat} {Q : State → Prop} (hl0 : l.stackTraces = false) (C : Cx D G p s m #[.ref b] meth c RL code 7) (hX : va_X b L xs s s.heap) (hbl : b < s.heap.size) (I : Iv D G s.heap H locs x mo o) (tp : tln D H x = (fI D H 11 mo 9).toInt ∧ BQ D H x mo ∧ RQ D H x ∧ VQ D H x mo) (hi : 0 ≤ i.toInt ∧ i.toInt + 6 ≤ L) (hL : L ≤ 3072) (hk : k ≤ 511) (hl : lv_has ls 7 [(0, .ref b), (1, .ref x), (2, .ref mo), (3, .ref o), (4, .int i)])
    (Fin : ∀ G' H' locs' ls', Iv D G' s.heap H' locs' x mo o → tln D H' x = (fI D H' 11 mo 9).toInt ∧ BQ D H' x mo ∧ RQ D H' x ∧ VQ D H' x mo → lv_has ls' 7 [(0, .ref b), (1, .ref x), (2, .ref mo), (3, .ref o), (4, .int i)] → W p l e room_1 s m #[.ref b] below meth c H' locs' (450 + 5 * k + 5) (30000 + 455 * k + 455) Q (F0 m 1653 ls' [])) : W p l e room_1 s m #[.ref b] below meth c H locs (450 + 5 * k) (30000 + 455 * k) Q (F0 m 491 ls []) := by
  have hx := C.1
  have hb := C.2.1
  have hbA : ¬ s.heap.size ≤ b := by omega
  have tp0 := tp
  obtain ⟨tp, bq0, rq0, vq0⟩ := tp
  obtain ⟨⟨V, K, ci0, mi0, pv0, pk0⟩, ⟨wf0, if0⟩, rp0⟩ := vq0
  refine lv_aload_n hx hb dL_law__491 rfl (lv_at hl 1 rfl) ?_
  refine lv_aload_n hx hb dL_law__492 rfl (lv_at hl 0 rfl) ?_
  refine lv_iload hx hb dL_law__493 (lv_at hl 4 rfl) ?_
  refine lv_iconst (v := 1) hx hb dL_law__495 (by decide) ?_
  refine lv_iadd hx hb dL_law__496 ?_
  refine lv_topi (fun v1 ev1 => ?_)
  have kv1 : (1 : Int32).toInt = 1 := by decide
  have fv1 : v1.toInt = i.toInt + 1 := by rw [ev1]; exact i_addc kv1 (by omega) (by omega)
  refine va_sld (A := fun q => s.heap.size ≤ q) hx hb hX hbl hbA I.S (i_vin (by omega) (by omega)) dL_law__497 ?_
  refine lv_topi (fun v2 ev2 => ?_)
  refine lv_aload_n hx hb dL_law__498 rfl (lv_at hl 3 rfl) ?_
  refine l_W (As := [.ref x, .int v2, .ref o]) hl0 C I (c_L_open l D G x v2 o I.2.1.1 I.2.1.2.2) kw_155 trivial (by decide +kernel) (by decide +kernel) dL_law__499 hl.1 cdL_open ⟨Nat.le_of_ble_eq_true rfl, Nat.le_of_ble_eq_true rfl, (by show 450 + 5 * k + 2 ≤ 601024; omega), (by show 30000 + 455 * k + 12 ≤ 7293034; omega), Nat.le_of_ble_eq_true rfl⟩ (fun r3 G3 H3 L3 I3 C m3 t3 K3 => ?_)
  have m3 := congrArg Int32.toInt m3
  obtain ⟨t3, rw3⟩ := t3
  have a9_3 : (fI D H3 10 x 9).toInt = (fI D H 10 x 9).toInt := ko_x K3 I.2.1.1 (by decide) (by decide +kernel)
  have a8_3 : (fI D H3 10 x 8).toInt = (fI D H 10 x 8).toInt := ko_x K3 I.2.1.1 (by decide) (by decide +kernel)
  have b4_3 : (fI D H3 11 mo 14).toInt = (fI D H 11 mo 14).toInt := ko_m K3 I.2.1.2.1 (by decide) (by decide +kernel)
  have b6_3 : (fI D H3 11 mo 6).toInt = (fI D H 11 mo 6).toInt := ko_m K3 I.2.1.2.1 (by decide) (by decide +kernel)
  have rp3 : RP6 D H3 x := rp0.keep I.1 I.2.1.1 K3 (by decide +kernel)
  have mi3 := mi0.keepO I.1 I.2.1.2.1 I.2.1.2.2 I.2.2.1.lt K3
  have ci3 := rw3 V K ci0
  have bq3 : BQ D H3 x mo := bq0.keep I.1 I.2.1.1 I.2.1.2.1 K3 (by decide +kernel) (by decide +kernel)
  have rq3 : RQ D H3 x := rq0.keep I.1 I.2.1.1 K3 (by decide +kernel)
  have t3 : tln D H3 x = tln D H x := t3
  refine lv_istore (lv' := [(5, .int r3), (0, .ref b), (1, .ref x), (2, .ref mo), (3, .ref o), (4, .int i)]) hx hb dL_law__502 hl (by decide) rfl (fun ls hl => ?_)
  refine lv_aload_n hx hb dL_law__504 rfl (lv_at hl 3 rfl) ?_
  refine lv_aload_n hx hb dL_law__505 rfl (lv_at hl 1 rfl) ?_
  refine lv_iload hx hb dL_law__506 (lv_at hl 5 rfl) ?_
  refine lv_iconst (v := 1) hx hb dL_law__508 (by decide) ?_
  refine lv_iadd hx hb dL_law__509 ?_
  refine lv_topi (fun v4 ev4 => ?_)
  have kv4 : (1 : Int32).toInt = 1 := by decide
  have fv4 : v4.toInt = i.toInt + 1 := by rw [ev4]; exact i_addc kv4 (by omega) (by omega)
  refine va_sld (A := fun q => s.heap.size ≤ q) hx hb hX hbl hbA I3.S (i_vin (by omega) (by omega)) dL_law__510 ?_
  refine lv_topi (fun v5 ev5 => ?_)
  refine l_E (T := TX12) (As := [.int v5]) C I3 (c_X12_open l D G3 mo v5 I3.2.1.2.1) kV_L_157 I3.2.1.2.1 trivial (by decide +kernel) dL_law__511 hl.1 rfl rfl (by decide) cd_X12_open ⟨Nat.le_of_ble_eq_true rfl, Nat.le_of_ble_eq_true rfl, (by show 450 + 5 * k + 2 ≤ 601024; omega), (by show 30000 + 455 * k + 12 ≤ 7293034; omega), Nat.le_of_ble_eq_true rfl⟩ (fun v6 H6 L6 I6 K6 q6 => ?_)
  have t6 : tln D H6 x = tln D H3 x := tlW I3.1 I3.2.1.1 K6 (by decide +kernel) (by decide +kernel)
  have m6 : (fI D H6 11 mo 9).toInt = (fI D H3 11 mo 9).toInt := congrArg Int32.toInt (K6.fI I3.2.1.2.1 rfl (by decide) (by decide +kernel))
  have bq6 : BQ D H6 x mo := bq3.keep I3.1 I3.2.1.1 I3.2.1.2.1 (Keep.o K6 o) (by decide +kernel) (by decide +kernel)
  have rq6 : RQ D H6 x := rq3.keep I3.1 I3.2.1.1 (Keep.o K6 o) (by decide +kernel)
  have a9_6 : (fI D H6 10 x 9).toInt = (fI D H3 10 x 9).toInt := ko_x (Keep.o K6 o) I3.2.1.1 (by decide) (by decide +kernel)
  have a8_6 : (fI D H6 10 x 8).toInt = (fI D H3 10 x 8).toInt := ko_x (Keep.o K6 o) I3.2.1.1 (by decide) (by decide +kernel)
  have b4_6 : (fI D H6 11 mo 14).toInt = (fI D H3 11 mo 14).toInt := ko_m (Keep.o K6 o) I3.2.1.2.1 (by decide) (by decide +kernel)
  have b6_6 : (fI D H6 11 mo 6).toInt = (fI D H3 11 mo 6).toInt := ko_m (Keep.o K6 o) I3.2.1.2.1 (by decide) (by decide +kernel)
  have rp6 : RP6 D H6 x := rp3.keep I3.1 I3.2.1.1 (Keep.o K6 o) (by decide +kernel)
  have ci6 := ci3.keep I3.1 I3.2.1.1 K6 (by decide +kernel)
  obtain ⟨r6, rfl, q6⟩ := q6
  have mi6 := q6.2 V K mi3
  refine lv_istore (lv' := [(6, .int r6), (5, .int r3), (0, .ref b), (1, .ref x), (2, .ref mo), (3, .ref o), (4, .int i)]) hx hb dL_law__514 hl (by decide) rfl (fun ls hl => ?_)
  refine lv_goto (tgt := 1653) hx hb dL_law__516 (by decide) ?_
  exact W.widen (by show 450 + 5 * k + 2 ≤ 450 + 5 * k + 5; omega) (by show 30000 + 455 * k + 12 ≤ 30000 + 455 * k + 455; omega) (Fin _ _ _ _ I6 (⟨by unfold tln at *; omega, bq6, rq6, ⟨⟨V, K, ci6, mi6, pv0, fun h9 => pk0 (by omega)⟩, ⟨by omega, by omega⟩, rp6⟩⟩) (lv_sub hl [2, 3, 4, 5, 6] rfl))

set_option maxRecDepth 100000 in
set_option maxHeartbeats 4000000 in
theorem lc_9 {p : Program} {l : Launch} {e : Env} {s : State} {m : MethodId} {below : List Frame} {meth : Method} {c : Code} {b L : Nat} {xs : Nat → Int32} {D : DD} {G : Nat → Nat} {H : Heap} {locs : List Loc} {ls : Array Slot} {i : Int32} {k x mo o : Nat} {Q : State → Prop} (hl0 : l.stackTraces = false) (C : Cx D G p s m #[.ref b] meth c RL code 7) (hX : va_X b L xs s s.heap) (hbl : b < s.heap.size) (I : Iv D G s.heap H locs x mo o) (tp : tln D H x = (fI D H 11 mo 9).toInt ∧ BQ D H x mo ∧ RQ D H x ∧ VQ D H x mo) (hi : 0 ≤ i.toInt ∧ i.toInt + 6 ≤ L) (hL : L ≤ 3072) (hk : k ≤ 511) (hl : lv_has ls 7 [(0, .ref b), (1, .ref x), (2, .ref mo), (3, .ref o), (4, .int i)])
    (Fin : ∀ G' H' locs' ls', Iv D G' s.heap H' locs' x mo o → tln D H' x = (fI D H' 11 mo 9).toInt ∧ BQ D H' x mo ∧ RQ D H' x ∧ VQ D H' x mo → lv_has ls' 7 [(0, .ref b), (1, .ref x), (2, .ref mo), (3, .ref o), (4, .int i)] → W p l e room_1 s m #[.ref b] below meth c H' locs' (450 + 5 * k + 5) (30000 + 455 * k + 455) Q (F0 m 1653 ls' [])) : W p l e room_1 s m #[.ref b] below meth c H locs (450 + 5 * k) (30000 + 455 * k) Q (F0 m 519 ls []) := by
  have hx := C.1
  have hb := C.2.1
  have hbA : ¬ s.heap.size ≤ b := by omega
  have tp0 := tp
  obtain ⟨tp, bq0, rq0, vq0⟩ := tp
  obtain ⟨⟨V, K, ci0, mi0, pv0, pk0⟩, ⟨wf0, if0⟩, rp0⟩ := vq0
  refine lv_aload_n hx hb dL_law__519 rfl (lv_at hl 1 rfl) ?_
  refine lv_aload_n hx hb dL_law__520 rfl (lv_at hl 0 rfl) ?_
  refine lv_iload hx hb dL_law__521 (lv_at hl 4 rfl) ?_
  refine lv_iconst (v := 1) hx hb dL_law__523 (by decide) ?_
  refine lv_iadd hx hb dL_law__524 ?_
  refine lv_topi (fun v1 ev1 => ?_)
  have kv1 : (1 : Int32).toInt = 1 := by decide
  have fv1 : v1.toInt = i.toInt + 1 := by rw [ev1]; exact i_addc kv1 (by omega) (by omega)
  refine va_sld (A := fun q => s.heap.size ≤ q) hx hb hX hbl hbA I.S (i_vin (by omega) (by omega)) dL_law__525 ?_
  refine lv_topi (fun v2 ev2 => ?_)
  refine lv_aload_n hx hb dL_law__526 rfl (lv_at hl 3 rfl) ?_
  refine l_W (As := [.ref x, .int v2, .ref o]) hl0 C I (c_L_hide l D G x v2 o I.2.1.1 I.2.1.2.2) kw_158 trivial (by decide +kernel) (by decide +kernel) dL_law__527 hl.1 cdL_hide ⟨Nat.le_of_ble_eq_true rfl, Nat.le_of_ble_eq_true rfl, (by show 450 + 5 * k + 2 ≤ 601024; omega), (by show 30000 + 455 * k + 12 ≤ 7293034; omega), Nat.le_of_ble_eq_true rfl⟩ (fun r3 G3 H3 L3 I3 C m3 t3 K3 => ?_)
  have m3 := congrArg Int32.toInt m3
  obtain ⟨t3, rw3⟩ := t3
  have a9_3 : (fI D H3 10 x 9).toInt = (fI D H 10 x 9).toInt := ko_x K3 I.2.1.1 (by decide) (by decide +kernel)
  have a8_3 : (fI D H3 10 x 8).toInt = (fI D H 10 x 8).toInt := ko_x K3 I.2.1.1 (by decide) (by decide +kernel)
  have b4_3 : (fI D H3 11 mo 14).toInt = (fI D H 11 mo 14).toInt := ko_m K3 I.2.1.2.1 (by decide) (by decide +kernel)
  have b6_3 : (fI D H3 11 mo 6).toInt = (fI D H 11 mo 6).toInt := ko_m K3 I.2.1.2.1 (by decide) (by decide +kernel)
  have rp3 : RP6 D H3 x := rp0.keep I.1 I.2.1.1 K3 (by decide +kernel)
  have mi3 := mi0.keepO I.1 I.2.1.2.1 I.2.1.2.2 I.2.2.1.lt K3
  have ci3 := rw3 V K ci0
  have bq3 : BQ D H3 x mo := bq0.keep I.1 I.2.1.1 I.2.1.2.1 K3 (by decide +kernel) (by decide +kernel)
  have rq3 : RQ D H3 x := rq0.keep I.1 I.2.1.1 K3 (by decide +kernel)
  have t3 : tln D H3 x = tln D H x := t3
  refine lv_istore (lv' := [(5, .int r3), (0, .ref b), (1, .ref x), (2, .ref mo), (3, .ref o), (4, .int i)]) hx hb dL_law__530 hl (by decide) rfl (fun ls hl => ?_)
  refine lv_aload_n hx hb dL_law__532 rfl (lv_at hl 3 rfl) ?_
  refine lv_aload_n hx hb dL_law__533 rfl (lv_at hl 1 rfl) ?_
  refine lv_iload hx hb dL_law__534 (lv_at hl 5 rfl) ?_
  refine lv_iconst (v := 1) hx hb dL_law__536 (by decide) ?_
  refine lv_iadd hx hb dL_law__537 ?_
  refine lv_topi (fun v4 ev4 => ?_)
  have kv4 : (1 : Int32).toInt = 1 := by decide
  have fv4 : v4.toInt = i.toInt + 1 := by rw [ev4]; exact i_addc kv4 (by omega) (by omega)
  refine va_sld (A := fun q => s.heap.size ≤ q) hx hb hX hbl hbA I3.S (i_vin (by omega) (by omega)) dL_law__538 ?_
  refine lv_topi (fun v5 ev5 => ?_)
  refine l_E (T := TX12) (As := [.int v5]) C I3 (c_X12_hide l D G3 mo v5 I3.2.1.2.1) kV_L_160 I3.2.1.2.1 trivial (by decide +kernel) dL_law__539 hl.1 rfl rfl (by decide) cd_X12_hide ⟨Nat.le_of_ble_eq_true rfl, Nat.le_of_ble_eq_true rfl, (by show 450 + 5 * k + 2 ≤ 601024; omega), (by show 30000 + 455 * k + 12 ≤ 7293034; omega), Nat.le_of_ble_eq_true rfl⟩ (fun v6 H6 L6 I6 K6 q6 => ?_)
  have t6 : tln D H6 x = tln D H3 x := tlW I3.1 I3.2.1.1 K6 (by decide +kernel) (by decide +kernel)
  have m6 : (fI D H6 11 mo 9).toInt = (fI D H3 11 mo 9).toInt := congrArg Int32.toInt (K6.fI I3.2.1.2.1 rfl (by decide) (by decide +kernel))
  have bq6 : BQ D H6 x mo := bq3.keep I3.1 I3.2.1.1 I3.2.1.2.1 (Keep.o K6 o) (by decide +kernel) (by decide +kernel)
  have rq6 : RQ D H6 x := rq3.keep I3.1 I3.2.1.1 (Keep.o K6 o) (by decide +kernel)
  have a9_6 : (fI D H6 10 x 9).toInt = (fI D H3 10 x 9).toInt := ko_x (Keep.o K6 o) I3.2.1.1 (by decide) (by decide +kernel)
  have a8_6 : (fI D H6 10 x 8).toInt = (fI D H3 10 x 8).toInt := ko_x (Keep.o K6 o) I3.2.1.1 (by decide) (by decide +kernel)
  have b4_6 : (fI D H6 11 mo 14).toInt = (fI D H3 11 mo 14).toInt := ko_m (Keep.o K6 o) I3.2.1.2.1 (by decide) (by decide +kernel)
  have b6_6 : (fI D H6 11 mo 6).toInt = (fI D H3 11 mo 6).toInt := ko_m (Keep.o K6 o) I3.2.1.2.1 (by decide) (by decide +kernel)
  have rp6 : RP6 D H6 x := rp3.keep I3.1 I3.2.1.1 (Keep.o K6 o) (by decide +kernel)
  have ci6 := ci3.keep I3.1 I3.2.1.1 K6 (by decide +kernel)
  obtain ⟨r6, rfl, q6⟩ := q6
  have mi6 := q6.2 V K mi3
  refine lv_istore (lv' := [(6, .int r6), (5, .int r3), (0, .ref b), (1, .ref x), (2, .ref mo), (3, .ref o), (4, .int i)]) hx hb dL_law__542 hl (by decide) rfl (fun ls hl => ?_)
  refine lv_goto (tgt := 1653) hx hb dL_law__544 (by decide) ?_
  exact W.widen (by show 450 + 5 * k + 2 ≤ 450 + 5 * k + 5; omega) (by show 30000 + 455 * k + 12 ≤ 30000 + 455 * k + 455; omega) (Fin _ _ _ _ I6 (⟨by unfold tln at *; omega, bq6, rq6, ⟨⟨V, K, ci6, mi6, pv0, fun h9 => pk0 (by omega)⟩, ⟨by omega, by omega⟩, rp6⟩⟩) (lv_sub hl [2, 3, 4, 5, 6] rfl))

set_option maxRecDepth 100000 in
set_option maxHeartbeats 4000000 in
theorem lc_10 {p : Program} {l : Launch} {e : Env} {s : State} {m : MethodId} {below : List Frame} {meth : Method} {c : Code} {b L : Nat} {xs : Nat → Int32} {D : DD} {G : Nat → Nat} {H : Heap} {locs : List Loc} {ls : Array Slot} {i : Int32} {k x mo o : Nat} {Q : State → Prop} (hl0 : l.stackTraces = false) (C : Cx D G p s m #[.ref b] meth c RL code 7) (hX : va_X b L xs s s.heap) (hbl : b < s.heap.size) (I : Iv D G s.heap H locs x mo o) (tp : tln D H x = (fI D H 11 mo 9).toInt ∧ BQ D H x mo ∧ RQ D H x ∧ VQ D H x mo) (hi : 0 ≤ i.toInt ∧ i.toInt + 6 ≤ L) (hL : L ≤ 3072) (hk : k ≤ 511) (hl : lv_has ls 7 [(0, .ref b), (1, .ref x), (2, .ref mo), (3, .ref o), (4, .int i)])
    (Fin : ∀ G' H' locs' ls', Iv D G' s.heap H' locs' x mo o → tln D H' x = (fI D H' 11 mo 9).toInt ∧ BQ D H' x mo ∧ RQ D H' x ∧ VQ D H' x mo → lv_has ls' 7 [(0, .ref b), (1, .ref x), (2, .ref mo), (3, .ref o), (4, .int i)] → W p l e room_1 s m #[.ref b] below meth c H' locs' (450 + 5 * k + 5) (30000 + 455 * k + 455) Q (F0 m 1653 ls' [])) : W p l e room_1 s m #[.ref b] below meth c H locs (450 + 5 * k) (30000 + 455 * k) Q (F0 m 547 ls []) := by
  have hx := C.1
  have hb := C.2.1
  have hbA : ¬ s.heap.size ≤ b := by omega
  have tp0 := tp
  obtain ⟨tp, bq0, rq0, vq0⟩ := tp
  obtain ⟨⟨V, K, ci0, mi0, pv0, pk0⟩, ⟨wf0, if0⟩, rp0⟩ := vq0
  refine lv_aload_n hx hb dL_law__547 rfl (lv_at hl 1 rfl) ?_
  refine lv_aload_n hx hb dL_law__548 rfl (lv_at hl 0 rfl) ?_
  refine lv_iload hx hb dL_law__549 (lv_at hl 4 rfl) ?_
  refine lv_iconst (v := 1) hx hb dL_law__551 (by decide) ?_
  refine lv_iadd hx hb dL_law__552 ?_
  refine lv_topi (fun v1 ev1 => ?_)
  have kv1 : (1 : Int32).toInt = 1 := by decide
  have fv1 : v1.toInt = i.toInt + 1 := by rw [ev1]; exact i_addc kv1 (by omega) (by omega)
  refine va_sld (A := fun q => s.heap.size ≤ q) hx hb hX hbl hbA I.S (i_vin (by omega) (by omega)) dL_law__553 ?_
  refine lv_topi (fun v2 ev2 => ?_)
  refine lv_aload_n hx hb dL_law__554 rfl (lv_at hl 0 rfl) ?_
  refine lv_iload hx hb dL_law__555 (lv_at hl 4 rfl) ?_
  refine lv_iconst (v := 2) hx hb dL_law__557 (by decide) ?_
  refine lv_iadd hx hb dL_law__558 ?_
  refine lv_topi (fun v3 ev3 => ?_)
  have kv3 : (2 : Int32).toInt = 2 := by decide
  have fv3 : v3.toInt = i.toInt + 2 := by rw [ev3]; exact i_addc kv3 (by omega) (by omega)
  refine va_sld (A := fun q => s.heap.size ≤ q) hx hb hX hbl hbA I.S (i_vin (by omega) (by omega)) dL_law__559 ?_
  refine lv_topi (fun v4 ev4 => ?_)
  refine lv_if_eq (tgt := 567) hx hb dL_law__560 (by decide) (fun c9 => ?_) (fun c9 => ?_)
  · skip
    refine lv_iconst (v := 0) hx hb dL_law__567 (by decide) ?_
    refine lv_aload_n hx hb dL_law__568 rfl (lv_at hl 3 rfl) ?_
    have k0_5 : (0 : Int32).toInt = 0 := by decide
    refine l_W (As := [.ref x, .int v2, .int (0 : Int32), .ref o]) hl0 C I (c_L_paper l D G x v2 (0 : Int32) o I.2.1.1 (by omega) I.2.1.2.2) kw_161 trivial (by decide +kernel) (by decide +kernel) dL_law__569 hl.1 cdL_paper ⟨Nat.le_of_ble_eq_true rfl, Nat.le_of_ble_eq_true rfl, (by show 450 + 5 * k + 1 ≤ 601024; omega), (by show 30000 + 455 * k + 6 ≤ 7293034; omega), Nat.le_of_ble_eq_true rfl⟩ (fun r5 G5 H5 L5 I5 C m5 t5 K5 => ?_)
    have m5 := congrArg Int32.toInt m5
    obtain ⟨t5, rw5⟩ := t5
    have a9_5 : (fI D H5 10 x 9).toInt = (fI D H 10 x 9).toInt := ko_x K5 I.2.1.1 (by decide) (by decide +kernel)
    have a8_5 : (fI D H5 10 x 8).toInt = (fI D H 10 x 8).toInt := ko_x K5 I.2.1.1 (by decide) (by decide +kernel)
    have b4_5 : (fI D H5 11 mo 14).toInt = (fI D H 11 mo 14).toInt := ko_m K5 I.2.1.2.1 (by decide) (by decide +kernel)
    have b6_5 : (fI D H5 11 mo 6).toInt = (fI D H 11 mo 6).toInt := ko_m K5 I.2.1.2.1 (by decide) (by decide +kernel)
    have rp5 : RP6 D H5 x := rp0.keep I.1 I.2.1.1 K5 (by decide +kernel)
    have mi5 := mi0.keepO I.1 I.2.1.2.1 I.2.1.2.2 I.2.2.1.lt K5
    have ci5 := rw5 V K ci0
    have bq5 : BQ D H5 x mo := bq0.keep I.1 I.2.1.1 I.2.1.2.1 K5 (by decide +kernel) (by decide +kernel)
    have rq5 : RQ D H5 x := rq0.keep I.1 I.2.1.1 K5 (by decide +kernel)
    have t5 : tln D H5 x = tln D H x := t5
    refine lv_istore (lv' := [(5, .int r5), (0, .ref b), (1, .ref x), (2, .ref mo), (3, .ref o), (4, .int i)]) hx hb dL_law__572 hl (by decide) rfl (fun ls hl => ?_)
    refine lv_aload_n hx hb dL_law__574 rfl (lv_at hl 3 rfl) ?_
    refine lv_aload_n hx hb dL_law__575 rfl (lv_at hl 1 rfl) ?_
    refine lv_iload hx hb dL_law__576 (lv_at hl 5 rfl) ?_
    refine lv_iconst (v := 1) hx hb dL_law__578 (by decide) ?_
    refine lv_iadd hx hb dL_law__579 ?_
    refine lv_topi (fun v6 ev6 => ?_)
    have kv6 : (1 : Int32).toInt = 1 := by decide
    have fv6 : v6.toInt = i.toInt + 1 := by rw [ev6]; exact i_addc kv6 (by omega) (by omega)
    refine va_sld (A := fun q => s.heap.size ≤ q) hx hb hX hbl hbA I5.S (i_vin (by omega) (by omega)) dL_law__580 ?_
    refine lv_topi (fun v7 ev7 => ?_)
    refine lv_aload_n hx hb dL_law__581 rfl (lv_at hl 1 rfl) ?_
    refine lv_iload hx hb dL_law__582 (lv_at hl 5 rfl) ?_
    refine lv_iconst (v := 2) hx hb dL_law__584 (by decide) ?_
    refine lv_iadd hx hb dL_law__585 ?_
    refine lv_topi (fun v8 ev8 => ?_)
    have kv8 : (2 : Int32).toInt = 2 := by decide
    have fv8 : v8.toInt = i.toInt + 2 := by rw [ev8]; exact i_addc kv8 (by omega) (by omega)
    refine va_sld (A := fun q => s.heap.size ≤ q) hx hb hX hbl hbA I5.S (i_vin (by omega) (by omega)) dL_law__586 ?_
    refine lv_topi (fun v9 ev9 => ?_)
    refine lv_if_eq (tgt := 594) hx hb dL_law__587 (by decide) (fun c9 => ?_) (fun c9 => ?_)
    · skip
      refine lv_iconst (v := 0) hx hb dL_law__594 (by decide) ?_
      have k0_10 : (0 : Int32).toInt = 0 := by decide
      refine l_E (T := TX12) (As := [.int v7, .int (0 : Int32)]) C I5 (c_X12_paper l D G5 mo v7 (0 : Int32) I5.2.1.2.1 (by omega)) kV_L_164 I5.2.1.2.1 trivial (by decide +kernel) dL_law__595 hl.1 rfl rfl (by decide) cd_X12_paper ⟨Nat.le_of_ble_eq_true rfl, Nat.le_of_ble_eq_true rfl, (by show 450 + 5 * k + 1 ≤ 601024; omega), (by show 30000 + 455 * k + 6 ≤ 7293034; omega), Nat.le_of_ble_eq_true rfl⟩ (fun v10 H10 L10 I10 K10 q10 => ?_)
      have t10 : tln D H10 x = tln D H5 x := tlW I5.1 I5.2.1.1 K10 (by decide +kernel) (by decide +kernel)
      have m10 : (fI D H10 11 mo 9).toInt = (fI D H5 11 mo 9).toInt := congrArg Int32.toInt (K10.fI I5.2.1.2.1 rfl (by decide) (by decide +kernel))
      have bq10 : BQ D H10 x mo := bq5.keep I5.1 I5.2.1.1 I5.2.1.2.1 (Keep.o K10 o) (by decide +kernel) (by decide +kernel)
      have rq10 : RQ D H10 x := rq5.keep I5.1 I5.2.1.1 (Keep.o K10 o) (by decide +kernel)
      have a9_10 : (fI D H10 10 x 9).toInt = (fI D H5 10 x 9).toInt := ko_x (Keep.o K10 o) I5.2.1.1 (by decide) (by decide +kernel)
      have a8_10 : (fI D H10 10 x 8).toInt = (fI D H5 10 x 8).toInt := ko_x (Keep.o K10 o) I5.2.1.1 (by decide) (by decide +kernel)
      have b4_10 : (fI D H10 11 mo 14).toInt = (fI D H5 11 mo 14).toInt := ko_m (Keep.o K10 o) I5.2.1.2.1 (by decide) (by decide +kernel)
      have b6_10 : (fI D H10 11 mo 6).toInt = (fI D H5 11 mo 6).toInt := ko_m (Keep.o K10 o) I5.2.1.2.1 (by decide) (by decide +kernel)
      have rp10 : RP6 D H10 x := rp5.keep I5.1 I5.2.1.1 (Keep.o K10 o) (by decide +kernel)
      have ci10 := ci5.keep I5.1 I5.2.1.1 K10 (by decide +kernel)
      obtain ⟨r10, rfl, q10⟩ := q10
      have mi10 := q10.2 V K mi5
      refine lv_istore (lv' := [(6, .int r10), (5, .int r5), (0, .ref b), (1, .ref x), (2, .ref mo), (3, .ref o), (4, .int i)]) hx hb dL_law__598 hl (by decide) rfl (fun ls hl => ?_)
      refine lv_goto (tgt := 1653) hx hb dL_law__600 (by decide) ?_
      exact W.widen (by show 450 + 5 * k + 1 ≤ 450 + 5 * k + 5; omega) (by show 30000 + 455 * k + 6 ≤ 30000 + 455 * k + 455; omega) (Fin _ _ _ _ I10 (⟨by unfold tln at *; omega, bq10, rq10, ⟨⟨V, K, ci10, mi10, pv0, fun h9 => pk0 (by omega)⟩, ⟨by omega, by omega⟩, rp10⟩⟩) (lv_sub hl [2, 3, 4, 5, 6] rfl))
    · skip
      refine lv_iconst (v := 1) hx hb dL_law__590 (by decide) ?_
      refine lv_goto (tgt := 595) hx hb dL_law__591 (by decide) ?_
      have k1_11 : (1 : Int32).toInt = 1 := by decide
      refine l_E (T := TX12) (As := [.int v7, .int (1 : Int32)]) C I5 (c_X12_paper l D G5 mo v7 (1 : Int32) I5.2.1.2.1 (by omega)) kV_L_164 I5.2.1.2.1 trivial (by decide +kernel) dL_law__595 hl.1 rfl rfl (by decide) cd_X12_paper ⟨Nat.le_of_ble_eq_true rfl, Nat.le_of_ble_eq_true rfl, (by show 450 + 5 * k + 1 ≤ 601024; omega), (by show 30000 + 455 * k + 6 ≤ 7293034; omega), Nat.le_of_ble_eq_true rfl⟩ (fun v11 H11 L11 I11 K11 q11 => ?_)
      have t11 : tln D H11 x = tln D H5 x := tlW I5.1 I5.2.1.1 K11 (by decide +kernel) (by decide +kernel)
      have m11 : (fI D H11 11 mo 9).toInt = (fI D H5 11 mo 9).toInt := congrArg Int32.toInt (K11.fI I5.2.1.2.1 rfl (by decide) (by decide +kernel))
      have bq11 : BQ D H11 x mo := bq5.keep I5.1 I5.2.1.1 I5.2.1.2.1 (Keep.o K11 o) (by decide +kernel) (by decide +kernel)
      have rq11 : RQ D H11 x := rq5.keep I5.1 I5.2.1.1 (Keep.o K11 o) (by decide +kernel)
      have a9_11 : (fI D H11 10 x 9).toInt = (fI D H5 10 x 9).toInt := ko_x (Keep.o K11 o) I5.2.1.1 (by decide) (by decide +kernel)
      have a8_11 : (fI D H11 10 x 8).toInt = (fI D H5 10 x 8).toInt := ko_x (Keep.o K11 o) I5.2.1.1 (by decide) (by decide +kernel)
      have b4_11 : (fI D H11 11 mo 14).toInt = (fI D H5 11 mo 14).toInt := ko_m (Keep.o K11 o) I5.2.1.2.1 (by decide) (by decide +kernel)
      have b6_11 : (fI D H11 11 mo 6).toInt = (fI D H5 11 mo 6).toInt := ko_m (Keep.o K11 o) I5.2.1.2.1 (by decide) (by decide +kernel)
      have rp11 : RP6 D H11 x := rp5.keep I5.1 I5.2.1.1 (Keep.o K11 o) (by decide +kernel)
      have ci11 := ci5.keep I5.1 I5.2.1.1 K11 (by decide +kernel)
      obtain ⟨r11, rfl, q11⟩ := q11
      have mi11 := q11.2 V K mi5
      refine lv_istore (lv' := [(6, .int r11), (5, .int r5), (0, .ref b), (1, .ref x), (2, .ref mo), (3, .ref o), (4, .int i)]) hx hb dL_law__598 hl (by decide) rfl (fun ls hl => ?_)
      refine lv_goto (tgt := 1653) hx hb dL_law__600 (by decide) ?_
      exact W.widen (by show 450 + 5 * k + 1 ≤ 450 + 5 * k + 5; omega) (by show 30000 + 455 * k + 6 ≤ 30000 + 455 * k + 455; omega) (Fin _ _ _ _ I11 (⟨by unfold tln at *; omega, bq11, rq11, ⟨⟨V, K, ci11, mi11, pv0, fun h9 => pk0 (by omega)⟩, ⟨by omega, by omega⟩, rp11⟩⟩) (lv_sub hl [2, 3, 4, 5, 6] rfl))
  · skip
    refine lv_iconst (v := 1) hx hb dL_law__563 (by decide) ?_
    refine lv_goto (tgt := 568) hx hb dL_law__564 (by decide) ?_
    refine lv_aload_n hx hb dL_law__568 rfl (lv_at hl 3 rfl) ?_
    have k1_12 : (1 : Int32).toInt = 1 := by decide
    refine l_W (As := [.ref x, .int v2, .int (1 : Int32), .ref o]) hl0 C I (c_L_paper l D G x v2 (1 : Int32) o I.2.1.1 (by omega) I.2.1.2.2) kw_161 trivial (by decide +kernel) (by decide +kernel) dL_law__569 hl.1 cdL_paper ⟨Nat.le_of_ble_eq_true rfl, Nat.le_of_ble_eq_true rfl, (by show 450 + 5 * k + 1 ≤ 601024; omega), (by show 30000 + 455 * k + 6 ≤ 7293034; omega), Nat.le_of_ble_eq_true rfl⟩ (fun r12 G12 H12 L12 I12 C m12 t12 K12 => ?_)
    have m12 := congrArg Int32.toInt m12
    obtain ⟨t12, rw12⟩ := t12
    have a9_12 : (fI D H12 10 x 9).toInt = (fI D H 10 x 9).toInt := ko_x K12 I.2.1.1 (by decide) (by decide +kernel)
    have a8_12 : (fI D H12 10 x 8).toInt = (fI D H 10 x 8).toInt := ko_x K12 I.2.1.1 (by decide) (by decide +kernel)
    have b4_12 : (fI D H12 11 mo 14).toInt = (fI D H 11 mo 14).toInt := ko_m K12 I.2.1.2.1 (by decide) (by decide +kernel)
    have b6_12 : (fI D H12 11 mo 6).toInt = (fI D H 11 mo 6).toInt := ko_m K12 I.2.1.2.1 (by decide) (by decide +kernel)
    have rp12 : RP6 D H12 x := rp0.keep I.1 I.2.1.1 K12 (by decide +kernel)
    have mi12 := mi0.keepO I.1 I.2.1.2.1 I.2.1.2.2 I.2.2.1.lt K12
    have ci12 := rw12 V K ci0
    have bq12 : BQ D H12 x mo := bq0.keep I.1 I.2.1.1 I.2.1.2.1 K12 (by decide +kernel) (by decide +kernel)
    have rq12 : RQ D H12 x := rq0.keep I.1 I.2.1.1 K12 (by decide +kernel)
    have t12 : tln D H12 x = tln D H x := t12
    refine lv_istore (lv' := [(5, .int r12), (0, .ref b), (1, .ref x), (2, .ref mo), (3, .ref o), (4, .int i)]) hx hb dL_law__572 hl (by decide) rfl (fun ls hl => ?_)
    refine lv_aload_n hx hb dL_law__574 rfl (lv_at hl 3 rfl) ?_
    refine lv_aload_n hx hb dL_law__575 rfl (lv_at hl 1 rfl) ?_
    refine lv_iload hx hb dL_law__576 (lv_at hl 5 rfl) ?_
    refine lv_iconst (v := 1) hx hb dL_law__578 (by decide) ?_
    refine lv_iadd hx hb dL_law__579 ?_
    refine lv_topi (fun v13 ev13 => ?_)
    have kv13 : (1 : Int32).toInt = 1 := by decide
    have fv13 : v13.toInt = i.toInt + 1 := by rw [ev13]; exact i_addc kv13 (by omega) (by omega)
    refine va_sld (A := fun q => s.heap.size ≤ q) hx hb hX hbl hbA I12.S (i_vin (by omega) (by omega)) dL_law__580 ?_
    refine lv_topi (fun v14 ev14 => ?_)
    refine lv_aload_n hx hb dL_law__581 rfl (lv_at hl 1 rfl) ?_
    refine lv_iload hx hb dL_law__582 (lv_at hl 5 rfl) ?_
    refine lv_iconst (v := 2) hx hb dL_law__584 (by decide) ?_
    refine lv_iadd hx hb dL_law__585 ?_
    refine lv_topi (fun v15 ev15 => ?_)
    have kv15 : (2 : Int32).toInt = 2 := by decide
    have fv15 : v15.toInt = i.toInt + 2 := by rw [ev15]; exact i_addc kv15 (by omega) (by omega)
    refine va_sld (A := fun q => s.heap.size ≤ q) hx hb hX hbl hbA I12.S (i_vin (by omega) (by omega)) dL_law__586 ?_
    refine lv_topi (fun v16 ev16 => ?_)
    refine lv_if_eq (tgt := 594) hx hb dL_law__587 (by decide) (fun c9 => ?_) (fun c9 => ?_)
    · skip
      refine lv_iconst (v := 0) hx hb dL_law__594 (by decide) ?_
      have k0_17 : (0 : Int32).toInt = 0 := by decide
      refine l_E (T := TX12) (As := [.int v14, .int (0 : Int32)]) C I12 (c_X12_paper l D G12 mo v14 (0 : Int32) I12.2.1.2.1 (by omega)) kV_L_164 I12.2.1.2.1 trivial (by decide +kernel) dL_law__595 hl.1 rfl rfl (by decide) cd_X12_paper ⟨Nat.le_of_ble_eq_true rfl, Nat.le_of_ble_eq_true rfl, (by show 450 + 5 * k + 1 ≤ 601024; omega), (by show 30000 + 455 * k + 6 ≤ 7293034; omega), Nat.le_of_ble_eq_true rfl⟩ (fun v17 H17 L17 I17 K17 q17 => ?_)
      have t17 : tln D H17 x = tln D H12 x := tlW I12.1 I12.2.1.1 K17 (by decide +kernel) (by decide +kernel)
      have m17 : (fI D H17 11 mo 9).toInt = (fI D H12 11 mo 9).toInt := congrArg Int32.toInt (K17.fI I12.2.1.2.1 rfl (by decide) (by decide +kernel))
      have bq17 : BQ D H17 x mo := bq12.keep I12.1 I12.2.1.1 I12.2.1.2.1 (Keep.o K17 o) (by decide +kernel) (by decide +kernel)
      have rq17 : RQ D H17 x := rq12.keep I12.1 I12.2.1.1 (Keep.o K17 o) (by decide +kernel)
      have a9_17 : (fI D H17 10 x 9).toInt = (fI D H12 10 x 9).toInt := ko_x (Keep.o K17 o) I12.2.1.1 (by decide) (by decide +kernel)
      have a8_17 : (fI D H17 10 x 8).toInt = (fI D H12 10 x 8).toInt := ko_x (Keep.o K17 o) I12.2.1.1 (by decide) (by decide +kernel)
      have b4_17 : (fI D H17 11 mo 14).toInt = (fI D H12 11 mo 14).toInt := ko_m (Keep.o K17 o) I12.2.1.2.1 (by decide) (by decide +kernel)
      have b6_17 : (fI D H17 11 mo 6).toInt = (fI D H12 11 mo 6).toInt := ko_m (Keep.o K17 o) I12.2.1.2.1 (by decide) (by decide +kernel)
      have rp17 : RP6 D H17 x := rp12.keep I12.1 I12.2.1.1 (Keep.o K17 o) (by decide +kernel)
      have ci17 := ci12.keep I12.1 I12.2.1.1 K17 (by decide +kernel)
      obtain ⟨r17, rfl, q17⟩ := q17
      have mi17 := q17.2 V K mi12
      refine lv_istore (lv' := [(6, .int r17), (5, .int r12), (0, .ref b), (1, .ref x), (2, .ref mo), (3, .ref o), (4, .int i)]) hx hb dL_law__598 hl (by decide) rfl (fun ls hl => ?_)
      refine lv_goto (tgt := 1653) hx hb dL_law__600 (by decide) ?_
      exact W.widen (by show 450 + 5 * k + 1 ≤ 450 + 5 * k + 5; omega) (by show 30000 + 455 * k + 6 ≤ 30000 + 455 * k + 455; omega) (Fin _ _ _ _ I17 (⟨by unfold tln at *; omega, bq17, rq17, ⟨⟨V, K, ci17, mi17, pv0, fun h9 => pk0 (by omega)⟩, ⟨by omega, by omega⟩, rp17⟩⟩) (lv_sub hl [2, 3, 4, 5, 6] rfl))
    · skip
      refine lv_iconst (v := 1) hx hb dL_law__590 (by decide) ?_
      refine lv_goto (tgt := 595) hx hb dL_law__591 (by decide) ?_
      have k1_18 : (1 : Int32).toInt = 1 := by decide
      refine l_E (T := TX12) (As := [.int v14, .int (1 : Int32)]) C I12 (c_X12_paper l D G12 mo v14 (1 : Int32) I12.2.1.2.1 (by omega)) kV_L_164 I12.2.1.2.1 trivial (by decide +kernel) dL_law__595 hl.1 rfl rfl (by decide) cd_X12_paper ⟨Nat.le_of_ble_eq_true rfl, Nat.le_of_ble_eq_true rfl, (by show 450 + 5 * k + 1 ≤ 601024; omega), (by show 30000 + 455 * k + 6 ≤ 7293034; omega), Nat.le_of_ble_eq_true rfl⟩ (fun v18 H18 L18 I18 K18 q18 => ?_)
      have t18 : tln D H18 x = tln D H12 x := tlW I12.1 I12.2.1.1 K18 (by decide +kernel) (by decide +kernel)
      have m18 : (fI D H18 11 mo 9).toInt = (fI D H12 11 mo 9).toInt := congrArg Int32.toInt (K18.fI I12.2.1.2.1 rfl (by decide) (by decide +kernel))
      have bq18 : BQ D H18 x mo := bq12.keep I12.1 I12.2.1.1 I12.2.1.2.1 (Keep.o K18 o) (by decide +kernel) (by decide +kernel)
      have rq18 : RQ D H18 x := rq12.keep I12.1 I12.2.1.1 (Keep.o K18 o) (by decide +kernel)
      have a9_18 : (fI D H18 10 x 9).toInt = (fI D H12 10 x 9).toInt := ko_x (Keep.o K18 o) I12.2.1.1 (by decide) (by decide +kernel)
      have a8_18 : (fI D H18 10 x 8).toInt = (fI D H12 10 x 8).toInt := ko_x (Keep.o K18 o) I12.2.1.1 (by decide) (by decide +kernel)
      have b4_18 : (fI D H18 11 mo 14).toInt = (fI D H12 11 mo 14).toInt := ko_m (Keep.o K18 o) I12.2.1.2.1 (by decide) (by decide +kernel)
      have b6_18 : (fI D H18 11 mo 6).toInt = (fI D H12 11 mo 6).toInt := ko_m (Keep.o K18 o) I12.2.1.2.1 (by decide) (by decide +kernel)
      have rp18 : RP6 D H18 x := rp12.keep I12.1 I12.2.1.1 (Keep.o K18 o) (by decide +kernel)
      have ci18 := ci12.keep I12.1 I12.2.1.1 K18 (by decide +kernel)
      obtain ⟨r18, rfl, q18⟩ := q18
      have mi18 := q18.2 V K mi12
      refine lv_istore (lv' := [(6, .int r18), (5, .int r12), (0, .ref b), (1, .ref x), (2, .ref mo), (3, .ref o), (4, .int i)]) hx hb dL_law__598 hl (by decide) rfl (fun ls hl => ?_)
      refine lv_goto (tgt := 1653) hx hb dL_law__600 (by decide) ?_
      exact W.widen (by show 450 + 5 * k + 1 ≤ 450 + 5 * k + 5; omega) (by show 30000 + 455 * k + 6 ≤ 30000 + 455 * k + 455; omega) (Fin _ _ _ _ I18 (⟨by unfold tln at *; omega, bq18, rq18, ⟨⟨V, K, ci18, mi18, pv0, fun h9 => pk0 (by omega)⟩, ⟨by omega, by omega⟩, rp18⟩⟩) (lv_sub hl [2, 3, 4, 5, 6] rfl))

set_option maxRecDepth 100000 in
set_option maxHeartbeats 4000000 in
theorem lc_11 {p : Program} {l : Launch} {e : Env} {s : State} {m : MethodId} {below : List Frame} {meth : Method} {c : Code} {b L : Nat} {xs : Nat → Int32} {D : DD} {G : Nat → Nat} {H : Heap} {locs : List Loc} {ls : Array Slot} {i : Int32} {k x mo o : Nat} {Q : State → Prop} (hl0 : l.stackTraces = false) (C : Cx D G p s m #[.ref b] meth c RL code 7) (hX : va_X b L xs s s.heap) (hbl : b < s.heap.size) (I : Iv D G s.heap H locs x mo o) (tp : tln D H x = (fI D H 11 mo 9).toInt ∧ BQ D H x mo ∧ RQ D H x ∧ VQ D H x mo) (hi : 0 ≤ i.toInt ∧ i.toInt + 6 ≤ L) (hL : L ≤ 3072) (hk : k ≤ 511) (hl : lv_has ls 7 [(0, .ref b), (1, .ref x), (2, .ref mo), (3, .ref o), (4, .int i)])
    (Fin : ∀ G' H' locs' ls', Iv D G' s.heap H' locs' x mo o → tln D H' x = (fI D H' 11 mo 9).toInt ∧ BQ D H' x mo ∧ RQ D H' x ∧ VQ D H' x mo → lv_has ls' 7 [(0, .ref b), (1, .ref x), (2, .ref mo), (3, .ref o), (4, .int i)] → W p l e room_1 s m #[.ref b] below meth c H' locs' (450 + 5 * k + 5) (30000 + 455 * k + 455) Q (F0 m 1653 ls' [])) : W p l e room_1 s m #[.ref b] below meth c H locs (450 + 5 * k) (30000 + 455 * k) Q (F0 m 603 ls []) := by
  have hx := C.1
  have hb := C.2.1
  have hbA : ¬ s.heap.size ≤ b := by omega
  have tp0 := tp
  obtain ⟨tp, bq0, rq0, vq0⟩ := tp
  obtain ⟨⟨V, K, ci0, mi0, pv0, pk0⟩, ⟨wf0, if0⟩, rp0⟩ := vq0
  refine lv_aload_n hx hb dL_law__603 rfl (lv_at hl 1 rfl) ?_
  refine lv_aload_n hx hb dL_law__604 rfl (lv_at hl 0 rfl) ?_
  refine lv_iload hx hb dL_law__605 (lv_at hl 4 rfl) ?_
  refine lv_iconst (v := 1) hx hb dL_law__607 (by decide) ?_
  refine lv_iadd hx hb dL_law__608 ?_
  refine lv_topi (fun v1 ev1 => ?_)
  have kv1 : (1 : Int32).toInt = 1 := by decide
  have fv1 : v1.toInt = i.toInt + 1 := by rw [ev1]; exact i_addc kv1 (by omega) (by omega)
  refine va_sld (A := fun q => s.heap.size ≤ q) hx hb hX hbl hbA I.S (i_vin (by omega) (by omega)) dL_law__609 ?_
  refine lv_topi (fun v2 ev2 => ?_)
  refine lv_aload_n hx hb dL_law__610 rfl (lv_at hl 0 rfl) ?_
  refine lv_iload hx hb dL_law__611 (lv_at hl 4 rfl) ?_
  refine lv_iconst (v := 2) hx hb dL_law__613 (by decide) ?_
  refine lv_iadd hx hb dL_law__614 ?_
  refine lv_topi (fun v3 ev3 => ?_)
  have kv3 : (2 : Int32).toInt = 2 := by decide
  have fv3 : v3.toInt = i.toInt + 2 := by rw [ev3]; exact i_addc kv3 (by omega) (by omega)
  refine va_sld (A := fun q => s.heap.size ≤ q) hx hb hX hbl hbA I.S (i_vin (by omega) (by omega)) dL_law__615 ?_
  refine lv_topi (fun v4 ev4 => ?_)
  refine lv_aload_n hx hb dL_law__616 rfl (lv_at hl 3 rfl) ?_
  refine l_W (As := [.ref x, .int v2, .int v4, .ref o]) hl0 C I (c_L_flue l D G x v2 v4 o I.2.1.1 I.2.1.2.2) kw_165 trivial (by decide +kernel) (by decide +kernel) dL_law__617 hl.1 cdL_flue ⟨Nat.le_of_ble_eq_true rfl, Nat.le_of_ble_eq_true rfl, (by show 450 + 5 * k + 2 ≤ 601024; omega), (by show 30000 + 455 * k + 12 ≤ 7293034; omega), Nat.le_of_ble_eq_true rfl⟩ (fun r5 G5 H5 L5 I5 C m5 t5 K5 => ?_)
  have m5 := congrArg Int32.toInt m5
  obtain ⟨t5, rw5⟩ := t5
  have a9_5 : (fI D H5 10 x 9).toInt = (fI D H 10 x 9).toInt := ko_x K5 I.2.1.1 (by decide) (by decide +kernel)
  have a8_5 : (fI D H5 10 x 8).toInt = (fI D H 10 x 8).toInt := ko_x K5 I.2.1.1 (by decide) (by decide +kernel)
  have b4_5 : (fI D H5 11 mo 14).toInt = (fI D H 11 mo 14).toInt := ko_m K5 I.2.1.2.1 (by decide) (by decide +kernel)
  have b6_5 : (fI D H5 11 mo 6).toInt = (fI D H 11 mo 6).toInt := ko_m K5 I.2.1.2.1 (by decide) (by decide +kernel)
  have rp5 : RP6 D H5 x := rp0.keep I.1 I.2.1.1 K5 (by decide +kernel)
  have mi5 := mi0.keepO I.1 I.2.1.2.1 I.2.1.2.2 I.2.2.1.lt K5
  have ci5 := rw5 V K ci0
  have bq5 : BQ D H5 x mo := bq0.keep I.1 I.2.1.1 I.2.1.2.1 K5 (by decide +kernel) (by decide +kernel)
  have rq5 : RQ D H5 x := rq0.keep I.1 I.2.1.1 K5 (by decide +kernel)
  have t5 : tln D H5 x = tln D H x := t5
  refine lv_istore (lv' := [(5, .int r5), (0, .ref b), (1, .ref x), (2, .ref mo), (3, .ref o), (4, .int i)]) hx hb dL_law__620 hl (by decide) rfl (fun ls hl => ?_)
  refine lv_aload_n hx hb dL_law__622 rfl (lv_at hl 3 rfl) ?_
  refine lv_aload_n hx hb dL_law__623 rfl (lv_at hl 1 rfl) ?_
  refine lv_iload hx hb dL_law__624 (lv_at hl 5 rfl) ?_
  refine lv_iconst (v := 1) hx hb dL_law__626 (by decide) ?_
  refine lv_iadd hx hb dL_law__627 ?_
  refine lv_topi (fun v6 ev6 => ?_)
  have kv6 : (1 : Int32).toInt = 1 := by decide
  have fv6 : v6.toInt = i.toInt + 1 := by rw [ev6]; exact i_addc kv6 (by omega) (by omega)
  refine va_sld (A := fun q => s.heap.size ≤ q) hx hb hX hbl hbA I5.S (i_vin (by omega) (by omega)) dL_law__628 ?_
  refine lv_topi (fun v7 ev7 => ?_)
  refine lv_aload_n hx hb dL_law__629 rfl (lv_at hl 1 rfl) ?_
  refine lv_iload hx hb dL_law__630 (lv_at hl 5 rfl) ?_
  refine lv_iconst (v := 2) hx hb dL_law__632 (by decide) ?_
  refine lv_iadd hx hb dL_law__633 ?_
  refine lv_topi (fun v8 ev8 => ?_)
  have kv8 : (2 : Int32).toInt = 2 := by decide
  have fv8 : v8.toInt = i.toInt + 2 := by rw [ev8]; exact i_addc kv8 (by omega) (by omega)
  refine va_sld (A := fun q => s.heap.size ≤ q) hx hb hX hbl hbA I5.S (i_vin (by omega) (by omega)) dL_law__634 ?_
  refine lv_topi (fun v9 ev9 => ?_)
  refine l_E (T := TX12) (As := [.int v7, .int v9]) C I5 (c_X12_flue l D G5 mo v7 v9 I5.2.1.2.1) kV_L_167 I5.2.1.2.1 trivial (by decide +kernel) dL_law__635 hl.1 rfl rfl (by decide) cd_X12_flue ⟨Nat.le_of_ble_eq_true rfl, Nat.le_of_ble_eq_true rfl, (by show 450 + 5 * k + 2 ≤ 601024; omega), (by show 30000 + 455 * k + 12 ≤ 7293034; omega), Nat.le_of_ble_eq_true rfl⟩ (fun v10 H10 L10 I10 K10 q10 => ?_)
  have t10 : tln D H10 x = tln D H5 x := tlW I5.1 I5.2.1.1 K10 (by decide +kernel) (by decide +kernel)
  have m10 : (fI D H10 11 mo 9).toInt = (fI D H5 11 mo 9).toInt := congrArg Int32.toInt (K10.fI I5.2.1.2.1 rfl (by decide) (by decide +kernel))
  have bq10 : BQ D H10 x mo := bq5.keep I5.1 I5.2.1.1 I5.2.1.2.1 (Keep.o K10 o) (by decide +kernel) (by decide +kernel)
  have rq10 : RQ D H10 x := rq5.keep I5.1 I5.2.1.1 (Keep.o K10 o) (by decide +kernel)
  have a9_10 : (fI D H10 10 x 9).toInt = (fI D H5 10 x 9).toInt := ko_x (Keep.o K10 o) I5.2.1.1 (by decide) (by decide +kernel)
  have a8_10 : (fI D H10 10 x 8).toInt = (fI D H5 10 x 8).toInt := ko_x (Keep.o K10 o) I5.2.1.1 (by decide) (by decide +kernel)
  have b4_10 : (fI D H10 11 mo 14).toInt = (fI D H5 11 mo 14).toInt := ko_m (Keep.o K10 o) I5.2.1.2.1 (by decide) (by decide +kernel)
  have b6_10 : (fI D H10 11 mo 6).toInt = (fI D H5 11 mo 6).toInt := ko_m (Keep.o K10 o) I5.2.1.2.1 (by decide) (by decide +kernel)
  have rp10 : RP6 D H10 x := rp5.keep I5.1 I5.2.1.1 (Keep.o K10 o) (by decide +kernel)
  have ci10 := ci5.keep I5.1 I5.2.1.1 K10 (by decide +kernel)
  obtain ⟨r10, rfl, q10⟩ := q10
  have mi10 := q10.2 V K mi5
  refine lv_istore (lv' := [(6, .int r10), (5, .int r5), (0, .ref b), (1, .ref x), (2, .ref mo), (3, .ref o), (4, .int i)]) hx hb dL_law__638 hl (by decide) rfl (fun ls hl => ?_)
  refine lv_goto (tgt := 1653) hx hb dL_law__640 (by decide) ?_
  exact W.widen (by show 450 + 5 * k + 2 ≤ 450 + 5 * k + 5; omega) (by show 30000 + 455 * k + 12 ≤ 30000 + 455 * k + 455; omega) (Fin _ _ _ _ I10 (⟨by unfold tln at *; omega, bq10, rq10, ⟨⟨V, K, ci10, mi10, pv0, fun h9 => pk0 (by omega)⟩, ⟨by omega, by omega⟩, rp10⟩⟩) (lv_sub hl [2, 3, 4, 5, 6] rfl))
