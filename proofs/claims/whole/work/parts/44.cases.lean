section LDZ
variable {p : Program} {l : Launch} {e : Env} {R : Room} {s : State} {m : MethodId} {args : Array Value} {below : List Frame} {meth : Method} {c : Code} {H : Heap} {locs : List Loc} {cells slots : Nat} {Q : State → Prop} {cc : ByteArray} {pc : Nat} {ls : Array Slot} {rest : List Value}
theorem ld_z (hexec : p.tables.exec = Jvm.exec) (hb : c.code = cc) {x : Int32} {o1 o2 : Int} {tgt tg2 : Nat} (d0 : decode cc pc = .ok (.ifCond .eq o1, 3)) (h0 : (pc : Int) + o1 = (tgt : Int)) (d1 : decode cc (pc + 3) = .ok (.iconst 1, 1)) (d2 : decode cc (pc + 4) = .ok (.goto o2, 3)) (h2 : ((pc + 4 : Nat) : Int) + o2 = (tg2 : Int)) (d3 : decode cc tgt = .ok (.iconst 0, 1)) (h3 : tgt + 1 = tg2)
    (kk : W p l e R s m args below meth c H locs cells slots Q (F0 m tg2 ls (.int (if x = 0 then 0 else 1) :: rest))) : W p l e R s m args below meth c H locs cells slots Q (F0 m pc ls (.int x :: rest)) := by
  refine lv_if_eq (tgt := tgt) hexec hb d0 h0 (fun h => ?_) (fun h => ?_)
  · refine lv_iconst (v := 0) hexec hb d3 (by decide) ?_
    rw [if_pos h] at kk
    rw [h3]; exact kk
  · refine lv_iconst (v := 1) hexec hb d1 (by decide) ?_
    rw [if_neg h] at kk
    exact lv_goto (tgt := tg2) hexec hb d2 h2 kk
end LDZ
set_option maxHeartbeats 4000000 in
set_option maxRecDepth 100000 in
theorem lc_weight {p : Program} {l : Launch} {e : Env} {s : State} {m : MethodId} {below : List Frame} {meth : Method} {c : Code} {b L : Nat} {xs : Nat → Int32} {dC : Nat → ClassId} {dI : Nat → Nat → Nat} {T : Nat → ClassId} {RR : St → St → Prop} (hB : PT_base RR) (hpt : PT_weight RR) (C : LAW p l s m c b L xs dC dI T) {ad am : Nat → Nat} {o i cells slots : Nat} {t u : St} {ob : Nat → Int64} {H : Heap} {locs : List Loc} {ls : Array Slot} {Q : State → Prop} (hi : i + 11 ≤ L) (hR : RR t u) (hc : cells + 1 ≤ 1100) (hsl : slots + 6 ≤ 9103) (hP : va_P (dC, dI) CLS (wA ad T t o ob ++ wM am T u) H) (hD : va_D (AA s) (wA ad T t o ob ++ wM am T u)) (hS : va_S (AA s) s.heap H locs) (hl : lv_has ls 8 (LV b ad am o i)) (kk : ∀ (t' u' : St) (ob' : Nat → Int64) (H : Heap) (locs : List Loc) (ls : Array Slot), RR t' u' → va_P (dC, dI) CLS (wA ad T t' o ob' ++ wM am T u') H → va_D (AA s) (wA ad T t' o ob' ++ wM am T u') → va_S (AA s) s.heap H locs → lv_has ls 8 (LV b ad am o i) → W p l e room_1 s m #[Value.ref b] below meth c H locs (cells + 1) (slots + 6) Q (F0 m 1736 ls [])) : W p l e room_1 s m #[Value.ref b] below meth c H locs cells slots Q (F0 m 120 ls []) := by
  obtain ⟨hx, hb, hml, hown, hts, hX, hbl, hL, hK, hN, hXQ, hlt⟩ := C
  obtain ⟨hI, hIM, hE, hEM, hz1, hz2, hz3, hz4⟩ := hB t u hR
  refine lv_aload_n hx hb de_Y_120 rfl (lv_at hl 3 rfl) ?_
  refine ld_l (j := 1) (n1 := 1) (n2 := 1) hx hb hown (hts _ uw_941) hX hbl hL hS hl 4 0 rfl rfl (by omega) de_Y_121 de_Y_122 (fun _ k => lv_iconst (v := nI 1) hx hb de_Y_124 (by decide) k) de_Y_125 de_Y_126 de_Y_127 de_Y_128 de_Y_130 de_Y_131 de_Y_132 (fun _ k => lv_iconst (v := nI 2) hx hb de_Y_134 (by decide) k) de_Y_135 de_Y_136 de_Y_137 de_Y_138 de_Y_141 de_Y_142 ?_
  refine ld_l (j := 3) (n1 := 1) (n2 := 1) hx hb hown (hts _ uw_941) hX hbl hL hS hl 4 0 rfl rfl (by omega) de_Y_143 de_Y_144 (fun _ k => lv_iconst (v := nI 3) hx hb de_Y_146 (by decide) k) de_Y_147 de_Y_148 de_Y_149 de_Y_150 de_Y_152 de_Y_153 de_Y_154 (fun _ k => lv_iconst (v := nI 4) hx hb de_Y_156 (by decide) k) de_Y_157 de_Y_158 de_Y_159 de_Y_160 de_Y_163 de_Y_164 ?_
  refine ld_l (j := 5) (n1 := 1) (n2 := 2) hx hb hown (hts _ uw_941) hX hbl hL hS hl 4 0 rfl rfl (by omega) de_Y_165 de_Y_166 (fun _ k => lv_iconst (v := nI 5) hx hb de_Y_168 (by decide) k) de_Y_169 de_Y_170 de_Y_171 de_Y_172 de_Y_174 de_Y_175 de_Y_176 (fun _ k => lv_bipush (v := nI 6) hx hb de_Y_178 (by decide) k) de_Y_180 de_Y_181 de_Y_182 de_Y_183 de_Y_186 de_Y_187 ?_
  refine ld_l (j := 7) (n1 := 2) (n2 := 2) hx hb hown (hts _ uw_941) hX hbl hL hS hl 4 0 rfl rfl (by omega) de_Y_188 de_Y_189 (fun _ k => lv_bipush (v := nI 7) hx hb de_Y_191 (by decide) k) de_Y_193 de_Y_194 de_Y_195 de_Y_196 de_Y_198 de_Y_199 de_Y_200 (fun _ k => lv_bipush (v := nI 8) hx hb de_Y_202 (by decide) k) de_Y_204 de_Y_205 de_Y_206 de_Y_207 de_Y_210 de_Y_211 ?_
  refine lv_aload_n hx hb de_Y_212 rfl (lv_at hl 1 rfl) ?_
  have hE9 := hpt t u (lg xs (i + 1)) (lg xs (i + 3)) (lg xs (i + 5)) (lg xs (i + 7)) hR
  obtain ⟨E1, E2, hR⟩ := hE9
  refine cs_S (As := [.ref (ad 0), .long (lg xs (i + 1)), .long (lg xs (i + 3)), .long (lg xs (i + 5)), .long (lg xs (i + 7)), .ref o]) (rest := []) (w := wA ad T t o ob) (v := wM am T u) hx hb hml hown hts (uA_weight l hlt dC dI ad T o ob t (lg xs (i + 1)) (lg xs (i + 3)) (lg xs (i + 5)) (lg xs (i + 7)) hI) rfl rfl ⟨(Nat.le_of_ble_eq_true rfl), (Nat.le_of_ble_eq_true rfl)⟩ uw_437 uw_436 uw_26 uw_435 ⟨by decide, by decide, by show Option.map _ _ = some 6; decide +kernel⟩ hl.1 rfl (Nat.le_of_ble_eq_true rfl) de_Y_213 ⟨hc, hsl⟩ hK hN hXQ hP hD hS (fun r _ H locs hw hP hD hS => ?_)
  have hw : r = k_weight (lg xs (i + 1)) (lg xs (i + 3)) (lg xs (i + 5)) (lg xs (i + 7)) t := hw
  refine lv_istore (lv' := [(5, .int r), (4, .int (nI i)), (3, .ref o), (2, .ref (am 0)), (1, .ref (ad 0)), (0, .ref b)]) hx hb de_Y_216 hl (by decide) rfl (fun ls hl => ?_)
  refine lv_aload_n hx hb de_Y_218 rfl (lv_at hl 3 rfl) ?_
  refine ld_l (j := 1) (n1 := 1) (n2 := 1) hx hb hown (hts _ uw_941) hX hbl hL hS hl 5 1 rfl rfl (by omega) de_Y_219 de_Y_220 (fun _ k => lv_iconst (v := nI 1) hx hb de_Y_222 (by decide) k) de_Y_223 de_Y_224 de_Y_225 de_Y_226 de_Y_228 de_Y_229 de_Y_230 (fun _ k => lv_iconst (v := nI 2) hx hb de_Y_232 (by decide) k) de_Y_233 de_Y_234 de_Y_235 de_Y_236 de_Y_239 de_Y_240 ?_
  refine ld_l (j := 3) (n1 := 1) (n2 := 1) hx hb hown (hts _ uw_941) hX hbl hL hS hl 5 1 rfl rfl (by omega) de_Y_241 de_Y_242 (fun _ k => lv_iconst (v := nI 3) hx hb de_Y_244 (by decide) k) de_Y_245 de_Y_246 de_Y_247 de_Y_248 de_Y_250 de_Y_251 de_Y_252 (fun _ k => lv_iconst (v := nI 4) hx hb de_Y_254 (by decide) k) de_Y_255 de_Y_256 de_Y_257 de_Y_258 de_Y_261 de_Y_262 ?_
  refine ld_l (j := 5) (n1 := 1) (n2 := 2) hx hb hown (hts _ uw_941) hX hbl hL hS hl 5 1 rfl rfl (by omega) de_Y_263 de_Y_264 (fun _ k => lv_iconst (v := nI 5) hx hb de_Y_266 (by decide) k) de_Y_267 de_Y_268 de_Y_269 de_Y_270 de_Y_272 de_Y_273 de_Y_274 (fun _ k => lv_bipush (v := nI 6) hx hb de_Y_276 (by decide) k) de_Y_278 de_Y_279 de_Y_280 de_Y_281 de_Y_284 de_Y_285 ?_
  refine ld_l (j := 7) (n1 := 2) (n2 := 2) hx hb hown (hts _ uw_941) hX hbl hL hS hl 5 1 rfl rfl (by omega) de_Y_286 de_Y_287 (fun _ k => lv_bipush (v := nI 7) hx hb de_Y_289 (by decide) k) de_Y_291 de_Y_292 de_Y_293 de_Y_294 de_Y_296 de_Y_297 de_Y_298 (fun _ k => lv_bipush (v := nI 8) hx hb de_Y_300 (by decide) k) de_Y_302 de_Y_303 de_Y_304 de_Y_305 de_Y_308 de_Y_309 ?_
  refine cb_Vi (As := [.long (lg xs (i + 1)), .long (lg xs (i + 3)), .long (lg xs (i + 5)), .long (lg xs (i + 7))]) (rest := []) (w := wM am T u) (v := wA ad T (s_weight (lg xs (i + 1)) (lg xs (i + 3)) (lg xs (i + 5)) (lg xs (i + 7)) t) o (o_weight (lg xs (i + 1)) (lg xs (i + 3)) (lg xs (i + 5)) (lg xs (i + 7)) t ob)) ⟨hx, hb, hml, hown, hts⟩ (mt_M_weight l dC dI am T u (lg xs (i + 1)) (lg xs (i + 3)) (lg xs (i + 5)) (lg xs (i + 7)) hIM) (cwV 4 hts (uw_V uw_861 uw_862 uw_863 uw_36 uw_864) rfl rfl rfl (by decide +kernel) ⟨(Nat.le_of_ble_eq_true rfl), (Nat.le_of_ble_eq_true rfl)⟩) (va_recv hK (ww_P.mp hP).2 (ci := 9) (q0 := 0) rfl rfl) rfl hl.1 rfl (Nat.le_of_ble_eq_true rfl) de_Y_310 ⟨hc, hsl⟩ hK hN hP hD hS (fun q h => h) (fun r2 _ H locs hw2 hP hD hS => ?_)
  have hP : va_P (dC, dI) CLS (wA ad T (s_weight (lg xs (i + 1)) (lg xs (i + 3)) (lg xs (i + 5)) (lg xs (i + 7)) t) o (o_weight (lg xs (i + 1)) (lg xs (i + 3)) (lg xs (i + 5)) (lg xs (i + 7)) t ob) ++ wM am T (m_weight (lg xs (i + 1)) (lg xs (i + 3)) (lg xs (i + 5)) (lg xs (i + 7)) u)) H := hP
  have hD : va_D (AA s) (wA ad T (s_weight (lg xs (i + 1)) (lg xs (i + 3)) (lg xs (i + 5)) (lg xs (i + 7)) t) o (o_weight (lg xs (i + 1)) (lg xs (i + 3)) (lg xs (i + 5)) (lg xs (i + 7)) t ob) ++ wM am T (m_weight (lg xs (i + 1)) (lg xs (i + 3)) (lg xs (i + 5)) (lg xs (i + 7)) u)) := hD
  have hw2 : r2 = w_weight (lg xs (i + 1)) (lg xs (i + 3)) (lg xs (i + 5)) (lg xs (i + 7)) u := hw2
  refine lv_istore (lv' := [(6, .int r2), (5, .int r), (4, .int (nI i)), (3, .ref o), (2, .ref (am 0)), (1, .ref (ad 0)), (0, .ref b)]) hx hb de_Y_313 hl (by decide) rfl (fun ls hl => ?_)
  refine lv_aload_n hx hb de_Y_315 rfl (lv_at hl 4 rfl) ?_
  refine cb_Vi (As := []) (rest := []) (w := wM am T (m_weight (lg xs (i + 1)) (lg xs (i + 3)) (lg xs (i + 5)) (lg xs (i + 7)) u)) (v := wA ad T (s_weight (lg xs (i + 1)) (lg xs (i + 3)) (lg xs (i + 5)) (lg xs (i + 7)) t) o (o_weight (lg xs (i + 1)) (lg xs (i + 3)) (lg xs (i + 5)) (lg xs (i + 7)) t ob)) ⟨hx, hb, hml, hown, hts⟩ (mt_M_thrown l dC dI am T (m_weight (lg xs (i + 1)) (lg xs (i + 3)) (lg xs (i + 5)) (lg xs (i + 7)) u)) (cwV 0 hts (uw_V uw_796 uw_797 uw_798 uw_36 uw_799) rfl rfl rfl (by decide +kernel) ⟨(Nat.le_of_ble_eq_true rfl), (Nat.le_of_ble_eq_true rfl)⟩) (va_recv hK (ww_P.mp hP).2 (ci := 9) (q0 := 0) rfl rfl) rfl hl.1 rfl (Nat.le_of_ble_eq_true rfl) de_Y_316 ⟨hc, hsl⟩ hK hN hP hD hS (fun q h => h) (fun r3 _ H locs hw3 hP hD hS => ?_)
  have hw3 : r3 = nI ((m_weight (lg xs (i + 1)) (lg xs (i + 3)) (lg xs (i + 5)) (lg xs (i + 7)) u).2.2.2 0) := hw3
  refine lv_iload hx hb de_Y_319 (lv_at hl 1 rfl) ?_
  refine lv_icmp_eq (tgt := 326) hx hb de_Y_321 (by decide) (fun c1 => ?_) (fun c1 => absurd (by rw [hw3, hw]; exact E1) c1)
  refine lv_iload hx hb de_Y_326 (lv_at hl 1 rfl) ?_
  have hend : ∀ (H : Heap) (locs : List Loc) (ls : Array Slot), va_P (dC, dI) CLS (wA ad T (s_weight (lg xs (i + 1)) (lg xs (i + 3)) (lg xs (i + 5)) (lg xs (i + 7)) t) o (o_weight (lg xs (i + 1)) (lg xs (i + 3)) (lg xs (i + 5)) (lg xs (i + 7)) t ob) ++ wM am T (m_weight (lg xs (i + 1)) (lg xs (i + 3)) (lg xs (i + 5)) (lg xs (i + 7)) u)) H → va_D (AA s) (wA ad T (s_weight (lg xs (i + 1)) (lg xs (i + 3)) (lg xs (i + 5)) (lg xs (i + 7)) t) o (o_weight (lg xs (i + 1)) (lg xs (i + 3)) (lg xs (i + 5)) (lg xs (i + 7)) t ob) ++ wM am T (m_weight (lg xs (i + 1)) (lg xs (i + 3)) (lg xs (i + 5)) (lg xs (i + 7)) u)) → va_S (AA s) s.heap H locs → lv_has ls 8 [(6, .int r2), (5, .int r), (4, .int (nI i)), (3, .ref o), (2, .ref (am 0)), (1, .ref (ad 0)), (0, .ref b)] → W p l e room_1 s m #[Value.ref b] below meth c H locs (cells + 1) (slots + 6) Q (F0 m 343 ls []) := by
    intro H locs ls hP hD hS hl
    refine lv_goto (tgt := 1736) hx hb de_Y_343 (by decide) ?_
    exact kk _ _ _ H locs ls hR hP hD hS (lv_sub hl [2, 3, 4, 5, 6] rfl)
  refine lv_if_ne (tgt := 343) hx hb de_Y_328 (by decide) (fun c2 => ?_) (fun c2 => ?_)
  · exact hend H locs ls hP hD hS hl
  · skip
    have E3 : (o_weight (lg xs (i + 1)) (lg xs (i + 3)) (lg xs (i + 5)) (lg xs (i + 7)) t ob) 0 = r2.toInt64 := by
      rw [o_weight, if_pos (hw.symm.trans c2), hw2]
      exact (if_pos rfl).trans (E2 (hw.symm.trans c2))
    refine lv_aload_n hx hb de_Y_331 rfl (lv_at hl 3 rfl) ?_
    refine lv_iconst (v := 0) hx hb de_Y_332 (by decide) ?_
    refine rw_lald (f := o_weight (lg xs (i + 1)) (lg xs (i + 3)) (lg xs (i + 5)) (lg xs (i + 7)) t ob) (j := 0) hx hb hK hP 33 0 rfl rfl (by decide) (by decide) de_Y_333 ?_
    refine lv_iload hx hb de_Y_334 (lv_at hl 0 rfl) ?_
    refine lv_i2l (v := r2.toInt64) hx hb de_Y_336 rfl ?_
    exact rw_eq (tgt := 343) hx hb de_Y_337 de_Y_338 (by decide) (fun c3 => hend H locs ls hP hD hS hl) (fun c3 => absurd E3 c3)
set_option maxHeartbeats 4000000 in
set_option maxRecDepth 100000 in
theorem lc_tank {p : Program} {l : Launch} {e : Env} {s : State} {m : MethodId} {below : List Frame} {meth : Method} {c : Code} {b L : Nat} {xs : Nat → Int32} {dC : Nat → ClassId} {dI : Nat → Nat → Nat} {T : Nat → ClassId} {RR : St → St → Prop} (hB : PT_base RR) (hpt : PT_tank RR) (C : LAW p l s m c b L xs dC dI T) {ad am : Nat → Nat} {o i cells slots : Nat} {t u : St} {ob : Nat → Int64} {H : Heap} {locs : List Loc} {ls : Array Slot} {Q : State → Prop} (hi : i + 11 ≤ L) (hR : RR t u) (hc : cells + 1 ≤ 1100) (hsl : slots + 6 ≤ 9103) (hP : va_P (dC, dI) CLS (wA ad T t o ob ++ wM am T u) H) (hD : va_D (AA s) (wA ad T t o ob ++ wM am T u)) (hS : va_S (AA s) s.heap H locs) (hl : lv_has ls 8 (LV b ad am o i)) (kk : ∀ (t' u' : St) (ob' : Nat → Int64) (H : Heap) (locs : List Loc) (ls : Array Slot), RR t' u' → va_P (dC, dI) CLS (wA ad T t' o ob' ++ wM am T u') H → va_D (AA s) (wA ad T t' o ob' ++ wM am T u') → va_S (AA s) s.heap H locs → lv_has ls 8 (LV b ad am o i) → W p l e room_1 s m #[Value.ref b] below meth c H locs (cells + 1) (slots + 6) Q (F0 m 1736 ls [])) : W p l e room_1 s m #[Value.ref b] below meth c H locs cells slots Q (F0 m 346 ls []) := by
  obtain ⟨hx, hb, hml, hown, hts, hX, hbl, hL, hK, hN, hXQ, hlt⟩ := C
  obtain ⟨hI, hIM, hE, hEM, hz1, hz2, hz3, hz4⟩ := hB t u hR
  refine lv_aload_n hx hb de_Y_346 rfl (lv_at hl 3 rfl) ?_
  refine ld_l (j := 1) (n1 := 1) (n2 := 1) hx hb hown (hts _ uw_941) hX hbl hL hS hl 4 0 rfl rfl (by omega) de_Y_347 de_Y_348 (fun _ k => lv_iconst (v := nI 1) hx hb de_Y_350 (by decide) k) de_Y_351 de_Y_352 de_Y_353 de_Y_354 de_Y_356 de_Y_357 de_Y_358 (fun _ k => lv_iconst (v := nI 2) hx hb de_Y_360 (by decide) k) de_Y_361 de_Y_362 de_Y_363 de_Y_364 de_Y_367 de_Y_368 ?_
  refine ld_l (j := 3) (n1 := 1) (n2 := 1) hx hb hown (hts _ uw_941) hX hbl hL hS hl 4 0 rfl rfl (by omega) de_Y_369 de_Y_370 (fun _ k => lv_iconst (v := nI 3) hx hb de_Y_372 (by decide) k) de_Y_373 de_Y_374 de_Y_375 de_Y_376 de_Y_378 de_Y_379 de_Y_380 (fun _ k => lv_iconst (v := nI 4) hx hb de_Y_382 (by decide) k) de_Y_383 de_Y_384 de_Y_385 de_Y_386 de_Y_389 de_Y_390 ?_
  refine ld_l (j := 5) (n1 := 1) (n2 := 2) hx hb hown (hts _ uw_941) hX hbl hL hS hl 4 0 rfl rfl (by omega) de_Y_391 de_Y_392 (fun _ k => lv_iconst (v := nI 5) hx hb de_Y_394 (by decide) k) de_Y_395 de_Y_396 de_Y_397 de_Y_398 de_Y_400 de_Y_401 de_Y_402 (fun _ k => lv_bipush (v := nI 6) hx hb de_Y_404 (by decide) k) de_Y_406 de_Y_407 de_Y_408 de_Y_409 de_Y_412 de_Y_413 ?_
  refine ld_l (j := 7) (n1 := 2) (n2 := 2) hx hb hown (hts _ uw_941) hX hbl hL hS hl 4 0 rfl rfl (by omega) de_Y_414 de_Y_415 (fun _ k => lv_bipush (v := nI 7) hx hb de_Y_417 (by decide) k) de_Y_419 de_Y_420 de_Y_421 de_Y_422 de_Y_424 de_Y_425 de_Y_426 (fun _ k => lv_bipush (v := nI 8) hx hb de_Y_428 (by decide) k) de_Y_430 de_Y_431 de_Y_432 de_Y_433 de_Y_436 de_Y_437 ?_
  refine ld_l (j := 9) (n1 := 2) (n2 := 2) hx hb hown (hts _ uw_941) hX hbl hL hS hl 4 0 rfl rfl (by omega) de_Y_438 de_Y_439 (fun _ k => lv_bipush (v := nI 9) hx hb de_Y_441 (by decide) k) de_Y_443 de_Y_444 de_Y_445 de_Y_446 de_Y_448 de_Y_449 de_Y_450 (fun _ k => lv_bipush (v := nI 10) hx hb de_Y_452 (by decide) k) de_Y_454 de_Y_455 de_Y_456 de_Y_457 de_Y_460 de_Y_461 ?_
  refine lv_aload_n hx hb de_Y_462 rfl (lv_at hl 1 rfl) ?_
  have hE9 := hpt t u (lg xs (i + 1)) (lg xs (i + 3)) (lg xs (i + 5)) (lg xs (i + 7)) (lg xs (i + 9)) hR
  obtain ⟨E1, E2, hR⟩ := hE9
  refine cs_S (As := [.ref (ad 0), .long (lg xs (i + 1)), .long (lg xs (i + 3)), .long (lg xs (i + 5)), .long (lg xs (i + 7)), .long (lg xs (i + 9)), .ref o]) (rest := []) (w := wA ad T t o ob) (v := wM am T u) hx hb hml hown hts (uA_tank l hlt dC dI ad T o ob t (lg xs (i + 1)) (lg xs (i + 3)) (lg xs (i + 5)) (lg xs (i + 7)) (lg xs (i + 9)) hI) rfl rfl ⟨(Nat.le_of_ble_eq_true rfl), (Nat.le_of_ble_eq_true rfl)⟩ uw_540 uw_539 uw_26 uw_538 ⟨by decide, by decide, by show Option.map _ _ = some 7; decide +kernel⟩ hl.1 rfl (Nat.le_of_ble_eq_true rfl) de_Y_463 ⟨hc, hsl⟩ hK hN hXQ hP hD hS (fun r _ H locs hw hP hD hS => ?_)
  have hw : r = k_tank (lg xs (i + 1)) (lg xs (i + 3)) (lg xs (i + 5)) (lg xs (i + 7)) (lg xs (i + 9)) t := hw
  refine lv_istore (lv' := [(5, .int r), (4, .int (nI i)), (3, .ref o), (2, .ref (am 0)), (1, .ref (ad 0)), (0, .ref b)]) hx hb de_Y_466 hl (by decide) rfl (fun ls hl => ?_)
  refine lv_aload_n hx hb de_Y_468 rfl (lv_at hl 3 rfl) ?_
  refine ld_l (j := 1) (n1 := 1) (n2 := 1) hx hb hown (hts _ uw_941) hX hbl hL hS hl 5 1 rfl rfl (by omega) de_Y_469 de_Y_470 (fun _ k => lv_iconst (v := nI 1) hx hb de_Y_472 (by decide) k) de_Y_473 de_Y_474 de_Y_475 de_Y_476 de_Y_478 de_Y_479 de_Y_480 (fun _ k => lv_iconst (v := nI 2) hx hb de_Y_482 (by decide) k) de_Y_483 de_Y_484 de_Y_485 de_Y_486 de_Y_489 de_Y_490 ?_
  refine ld_l (j := 3) (n1 := 1) (n2 := 1) hx hb hown (hts _ uw_941) hX hbl hL hS hl 5 1 rfl rfl (by omega) de_Y_491 de_Y_492 (fun _ k => lv_iconst (v := nI 3) hx hb de_Y_494 (by decide) k) de_Y_495 de_Y_496 de_Y_497 de_Y_498 de_Y_500 de_Y_501 de_Y_502 (fun _ k => lv_iconst (v := nI 4) hx hb de_Y_504 (by decide) k) de_Y_505 de_Y_506 de_Y_507 de_Y_508 de_Y_511 de_Y_512 ?_
  refine ld_l (j := 5) (n1 := 1) (n2 := 2) hx hb hown (hts _ uw_941) hX hbl hL hS hl 5 1 rfl rfl (by omega) de_Y_513 de_Y_514 (fun _ k => lv_iconst (v := nI 5) hx hb de_Y_516 (by decide) k) de_Y_517 de_Y_518 de_Y_519 de_Y_520 de_Y_522 de_Y_523 de_Y_524 (fun _ k => lv_bipush (v := nI 6) hx hb de_Y_526 (by decide) k) de_Y_528 de_Y_529 de_Y_530 de_Y_531 de_Y_534 de_Y_535 ?_
  refine ld_l (j := 7) (n1 := 2) (n2 := 2) hx hb hown (hts _ uw_941) hX hbl hL hS hl 5 1 rfl rfl (by omega) de_Y_536 de_Y_537 (fun _ k => lv_bipush (v := nI 7) hx hb de_Y_539 (by decide) k) de_Y_541 de_Y_542 de_Y_543 de_Y_544 de_Y_546 de_Y_547 de_Y_548 (fun _ k => lv_bipush (v := nI 8) hx hb de_Y_550 (by decide) k) de_Y_552 de_Y_553 de_Y_554 de_Y_555 de_Y_558 de_Y_559 ?_
  refine ld_l (j := 9) (n1 := 2) (n2 := 2) hx hb hown (hts _ uw_941) hX hbl hL hS hl 5 1 rfl rfl (by omega) de_Y_560 de_Y_561 (fun _ k => lv_bipush (v := nI 9) hx hb de_Y_563 (by decide) k) de_Y_565 de_Y_566 de_Y_567 de_Y_568 de_Y_570 de_Y_571 de_Y_572 (fun _ k => lv_bipush (v := nI 10) hx hb de_Y_574 (by decide) k) de_Y_576 de_Y_577 de_Y_578 de_Y_579 de_Y_582 de_Y_583 ?_
  refine cb_Vi (As := [.long (lg xs (i + 1)), .long (lg xs (i + 3)), .long (lg xs (i + 5)), .long (lg xs (i + 7)), .long (lg xs (i + 9))]) (rest := []) (w := wM am T u) (v := wA ad T (s_tank (lg xs (i + 1)) (lg xs (i + 3)) (lg xs (i + 5)) (lg xs (i + 7)) (lg xs (i + 9)) t) o (o_tank (lg xs (i + 1)) (lg xs (i + 3)) (lg xs (i + 5)) (lg xs (i + 7)) (lg xs (i + 9)) t ob)) ⟨hx, hb, hml, hown, hts⟩ (mt_M_tank l dC dI am T u (lg xs (i + 1)) (lg xs (i + 3)) (lg xs (i + 5)) (lg xs (i + 7)) (lg xs (i + 9)) hIM) (cwV 5 hts (uw_V uw_867 uw_868 uw_869 uw_36 uw_870) rfl rfl rfl (by decide +kernel) ⟨(Nat.le_of_ble_eq_true rfl), (Nat.le_of_ble_eq_true rfl)⟩) (va_recv hK (ww_P.mp hP).2 (ci := 9) (q0 := 0) rfl rfl) rfl hl.1 rfl (Nat.le_of_ble_eq_true rfl) de_Y_584 ⟨hc, hsl⟩ hK hN hP hD hS (fun q h => h) (fun r2 _ H locs hw2 hP hD hS => ?_)
  have hP : va_P (dC, dI) CLS (wA ad T (s_tank (lg xs (i + 1)) (lg xs (i + 3)) (lg xs (i + 5)) (lg xs (i + 7)) (lg xs (i + 9)) t) o (o_tank (lg xs (i + 1)) (lg xs (i + 3)) (lg xs (i + 5)) (lg xs (i + 7)) (lg xs (i + 9)) t ob) ++ wM am T (m_tank (lg xs (i + 1)) (lg xs (i + 3)) (lg xs (i + 5)) (lg xs (i + 7)) (lg xs (i + 9)) u)) H := hP
  have hD : va_D (AA s) (wA ad T (s_tank (lg xs (i + 1)) (lg xs (i + 3)) (lg xs (i + 5)) (lg xs (i + 7)) (lg xs (i + 9)) t) o (o_tank (lg xs (i + 1)) (lg xs (i + 3)) (lg xs (i + 5)) (lg xs (i + 7)) (lg xs (i + 9)) t ob) ++ wM am T (m_tank (lg xs (i + 1)) (lg xs (i + 3)) (lg xs (i + 5)) (lg xs (i + 7)) (lg xs (i + 9)) u)) := hD
  have hw2 : r2 = w_tank (lg xs (i + 1)) (lg xs (i + 3)) (lg xs (i + 5)) (lg xs (i + 7)) (lg xs (i + 9)) u := hw2
  refine lv_istore (lv' := [(6, .int r2), (5, .int r), (4, .int (nI i)), (3, .ref o), (2, .ref (am 0)), (1, .ref (ad 0)), (0, .ref b)]) hx hb de_Y_587 hl (by decide) rfl (fun ls hl => ?_)
  refine lv_aload_n hx hb de_Y_589 rfl (lv_at hl 4 rfl) ?_
  refine cb_Vi (As := []) (rest := []) (w := wM am T (m_tank (lg xs (i + 1)) (lg xs (i + 3)) (lg xs (i + 5)) (lg xs (i + 7)) (lg xs (i + 9)) u)) (v := wA ad T (s_tank (lg xs (i + 1)) (lg xs (i + 3)) (lg xs (i + 5)) (lg xs (i + 7)) (lg xs (i + 9)) t) o (o_tank (lg xs (i + 1)) (lg xs (i + 3)) (lg xs (i + 5)) (lg xs (i + 7)) (lg xs (i + 9)) t ob)) ⟨hx, hb, hml, hown, hts⟩ (mt_M_thrown l dC dI am T (m_tank (lg xs (i + 1)) (lg xs (i + 3)) (lg xs (i + 5)) (lg xs (i + 7)) (lg xs (i + 9)) u)) (cwV 0 hts (uw_V uw_796 uw_797 uw_798 uw_36 uw_799) rfl rfl rfl (by decide +kernel) ⟨(Nat.le_of_ble_eq_true rfl), (Nat.le_of_ble_eq_true rfl)⟩) (va_recv hK (ww_P.mp hP).2 (ci := 9) (q0 := 0) rfl rfl) rfl hl.1 rfl (Nat.le_of_ble_eq_true rfl) de_Y_590 ⟨hc, hsl⟩ hK hN hP hD hS (fun q h => h) (fun r3 _ H locs hw3 hP hD hS => ?_)
  have hw3 : r3 = nI ((m_tank (lg xs (i + 1)) (lg xs (i + 3)) (lg xs (i + 5)) (lg xs (i + 7)) (lg xs (i + 9)) u).2.2.2 0) := hw3
  refine lv_iload hx hb de_Y_593 (lv_at hl 1 rfl) ?_
  refine lv_icmp_eq (tgt := 600) hx hb de_Y_595 (by decide) (fun c1 => ?_) (fun c1 => absurd (by rw [hw3, hw]; exact E1) c1)
  refine lv_iload hx hb de_Y_600 (lv_at hl 1 rfl) ?_
  have hend : ∀ (H : Heap) (locs : List Loc) (ls : Array Slot), va_P (dC, dI) CLS (wA ad T (s_tank (lg xs (i + 1)) (lg xs (i + 3)) (lg xs (i + 5)) (lg xs (i + 7)) (lg xs (i + 9)) t) o (o_tank (lg xs (i + 1)) (lg xs (i + 3)) (lg xs (i + 5)) (lg xs (i + 7)) (lg xs (i + 9)) t ob) ++ wM am T (m_tank (lg xs (i + 1)) (lg xs (i + 3)) (lg xs (i + 5)) (lg xs (i + 7)) (lg xs (i + 9)) u)) H → va_D (AA s) (wA ad T (s_tank (lg xs (i + 1)) (lg xs (i + 3)) (lg xs (i + 5)) (lg xs (i + 7)) (lg xs (i + 9)) t) o (o_tank (lg xs (i + 1)) (lg xs (i + 3)) (lg xs (i + 5)) (lg xs (i + 7)) (lg xs (i + 9)) t ob) ++ wM am T (m_tank (lg xs (i + 1)) (lg xs (i + 3)) (lg xs (i + 5)) (lg xs (i + 7)) (lg xs (i + 9)) u)) → va_S (AA s) s.heap H locs → lv_has ls 8 [(6, .int r2), (5, .int r), (4, .int (nI i)), (3, .ref o), (2, .ref (am 0)), (1, .ref (ad 0)), (0, .ref b)] → W p l e room_1 s m #[Value.ref b] below meth c H locs (cells + 1) (slots + 6) Q (F0 m 617 ls []) := by
    intro H locs ls hP hD hS hl
    refine lv_goto (tgt := 1736) hx hb de_Y_617 (by decide) ?_
    exact kk _ _ _ H locs ls hR hP hD hS (lv_sub hl [2, 3, 4, 5, 6] rfl)
  refine lv_if_ne (tgt := 617) hx hb de_Y_602 (by decide) (fun c2 => ?_) (fun c2 => ?_)
  · exact hend H locs ls hP hD hS hl
  · skip
    have E3 : (o_tank (lg xs (i + 1)) (lg xs (i + 3)) (lg xs (i + 5)) (lg xs (i + 7)) (lg xs (i + 9)) t ob) 0 = r2.toInt64 := by
      rw [o_tank, if_pos (hw.symm.trans c2), hw2]
      exact (if_pos rfl).trans (E2 (hw.symm.trans c2))
    refine lv_aload_n hx hb de_Y_605 rfl (lv_at hl 3 rfl) ?_
    refine lv_iconst (v := 0) hx hb de_Y_606 (by decide) ?_
    refine rw_lald (f := o_tank (lg xs (i + 1)) (lg xs (i + 3)) (lg xs (i + 5)) (lg xs (i + 7)) (lg xs (i + 9)) t ob) (j := 0) hx hb hK hP 33 0 rfl rfl (by decide) (by decide) de_Y_607 ?_
    refine lv_iload hx hb de_Y_608 (lv_at hl 0 rfl) ?_
    refine lv_i2l (v := r2.toInt64) hx hb de_Y_610 rfl ?_
    exact rw_eq (tgt := 617) hx hb de_Y_611 de_Y_612 (by decide) (fun c3 => hend H locs ls hP hD hS hl) (fun c3 => absurd E3 c3)
set_option maxHeartbeats 4000000 in
set_option maxRecDepth 100000 in
theorem lc_filled {p : Program} {l : Launch} {e : Env} {s : State} {m : MethodId} {below : List Frame} {meth : Method} {c : Code} {b L : Nat} {xs : Nat → Int32} {dC : Nat → ClassId} {dI : Nat → Nat → Nat} {T : Nat → ClassId} {RR : St → St → Prop} (hB : PT_base RR) (hpt : PT_filled RR) (C : LAW p l s m c b L xs dC dI T) {ad am : Nat → Nat} {o i cells slots : Nat} {t u : St} {ob : Nat → Int64} {H : Heap} {locs : List Loc} {ls : Array Slot} {Q : State → Prop} (hi : i + 11 ≤ L) (hR : RR t u) (hc : cells + 1 ≤ 1100) (hsl : slots + 6 ≤ 9103) (hP : va_P (dC, dI) CLS (wA ad T t o ob ++ wM am T u) H) (hD : va_D (AA s) (wA ad T t o ob ++ wM am T u)) (hS : va_S (AA s) s.heap H locs) (hl : lv_has ls 8 (LV b ad am o i)) (kk : ∀ (t' u' : St) (ob' : Nat → Int64) (H : Heap) (locs : List Loc) (ls : Array Slot), RR t' u' → va_P (dC, dI) CLS (wA ad T t' o ob' ++ wM am T u') H → va_D (AA s) (wA ad T t' o ob' ++ wM am T u') → va_S (AA s) s.heap H locs → lv_has ls 8 (LV b ad am o i) → W p l e room_1 s m #[Value.ref b] below meth c H locs (cells + 1) (slots + 6) Q (F0 m 1736 ls [])) : W p l e room_1 s m #[Value.ref b] below meth c H locs cells slots Q (F0 m 620 ls []) := by
  obtain ⟨hx, hb, hml, hown, hts, hX, hbl, hL, hK, hN, hXQ, hlt⟩ := C
  obtain ⟨hI, hIM, hE, hEM, hz1, hz2, hz3, hz4⟩ := hB t u hR
  refine lv_aload_n hx hb de_Y_620 rfl (lv_at hl 3 rfl) ?_
  refine ld_i (j := 1) (n1 := 1) hx hb hX hbl hL hS hl 4 0 rfl rfl (by omega) de_Y_621 de_Y_622 (fun _ k => lv_iconst (v := nI 1) hx hb de_Y_624 (by decide) k) de_Y_625 de_Y_626 ?_
  refine ld_l (j := 2) (n1 := 1) (n2 := 1) hx hb hown (hts _ uw_941) hX hbl hL hS hl 4 0 rfl rfl (by omega) de_Y_627 de_Y_628 (fun _ k => lv_iconst (v := nI 2) hx hb de_Y_630 (by decide) k) de_Y_631 de_Y_632 de_Y_633 de_Y_634 de_Y_636 de_Y_637 de_Y_638 (fun _ k => lv_iconst (v := nI 3) hx hb de_Y_640 (by decide) k) de_Y_641 de_Y_642 de_Y_643 de_Y_644 de_Y_647 de_Y_648 ?_
  refine lv_aload_n hx hb de_Y_649 rfl (lv_at hl 1 rfl) ?_
  have hE9 := hpt t u (xs (i + 1)) (lg xs (i + 2)) hR
  obtain ⟨E1, E2, hR⟩ := hE9
  refine cs_S (As := [.ref (ad 0), .int (xs (i + 1)), .long (lg xs (i + 2)), .ref o]) (rest := []) (w := wA ad T t o ob) (v := wM am T u) hx hb hml hown hts (uA_filled l hlt dC dI ad T o ob t (xs (i + 1)) (lg xs (i + 2)) hI) rfl rfl ⟨(Nat.le_of_ble_eq_true rfl), (Nat.le_of_ble_eq_true rfl)⟩ uw_555 uw_554 uw_26 uw_553 ⟨by decide, by decide, by show Option.map _ _ = some 4; decide +kernel⟩ hl.1 rfl (Nat.le_of_ble_eq_true rfl) de_Y_650 ⟨hc, hsl⟩ hK hN hXQ hP hD hS (fun r _ H locs hw hP hD hS => ?_)
  have hw : r = k_filled (xs (i + 1)) (lg xs (i + 2)) t := hw
  refine lv_istore (lv' := [(5, .int r), (4, .int (nI i)), (3, .ref o), (2, .ref (am 0)), (1, .ref (ad 0)), (0, .ref b)]) hx hb de_Y_653 hl (by decide) rfl (fun ls hl => ?_)
  refine lv_aload_n hx hb de_Y_655 rfl (lv_at hl 3 rfl) ?_
  refine ld_i (j := 1) (n1 := 1) hx hb hX hbl hL hS hl 5 1 rfl rfl (by omega) de_Y_656 de_Y_657 (fun _ k => lv_iconst (v := nI 1) hx hb de_Y_659 (by decide) k) de_Y_660 de_Y_661 ?_
  refine ld_l (j := 2) (n1 := 1) (n2 := 1) hx hb hown (hts _ uw_941) hX hbl hL hS hl 5 1 rfl rfl (by omega) de_Y_662 de_Y_663 (fun _ k => lv_iconst (v := nI 2) hx hb de_Y_665 (by decide) k) de_Y_666 de_Y_667 de_Y_668 de_Y_669 de_Y_671 de_Y_672 de_Y_673 (fun _ k => lv_iconst (v := nI 3) hx hb de_Y_675 (by decide) k) de_Y_676 de_Y_677 de_Y_678 de_Y_679 de_Y_682 de_Y_683 ?_
  refine cb_Vi (As := [.int (xs (i + 1)), .long (lg xs (i + 2))]) (rest := []) (w := wM am T u) (v := wA ad T (s_filled (xs (i + 1)) (lg xs (i + 2)) t) o (o_filled (xs (i + 1)) (lg xs (i + 2)) t ob)) ⟨hx, hb, hml, hown, hts⟩ (mt_M_filled l dC dI am T u (xs (i + 1)) (lg xs (i + 2)) hIM) (cwV 2 hts (uw_V uw_874 uw_875 uw_876 uw_36 uw_877) rfl rfl rfl (by decide +kernel) ⟨(Nat.le_of_ble_eq_true rfl), (Nat.le_of_ble_eq_true rfl)⟩) (va_recv hK (ww_P.mp hP).2 (ci := 9) (q0 := 0) rfl rfl) rfl hl.1 rfl (Nat.le_of_ble_eq_true rfl) de_Y_684 ⟨hc, hsl⟩ hK hN hP hD hS (fun q h => h) (fun r2 _ H locs hw2 hP hD hS => ?_)
  have hP : va_P (dC, dI) CLS (wA ad T (s_filled (xs (i + 1)) (lg xs (i + 2)) t) o (o_filled (xs (i + 1)) (lg xs (i + 2)) t ob) ++ wM am T (m_filled (xs (i + 1)) (lg xs (i + 2)) u)) H := hP
  have hD : va_D (AA s) (wA ad T (s_filled (xs (i + 1)) (lg xs (i + 2)) t) o (o_filled (xs (i + 1)) (lg xs (i + 2)) t ob) ++ wM am T (m_filled (xs (i + 1)) (lg xs (i + 2)) u)) := hD
  have hw2 : r2 = w_filled (xs (i + 1)) (lg xs (i + 2)) u := hw2
  refine lv_istore (lv' := [(6, .int r2), (5, .int r), (4, .int (nI i)), (3, .ref o), (2, .ref (am 0)), (1, .ref (ad 0)), (0, .ref b)]) hx hb de_Y_687 hl (by decide) rfl (fun ls hl => ?_)
  refine lv_aload_n hx hb de_Y_689 rfl (lv_at hl 4 rfl) ?_
  refine cb_Vi (As := []) (rest := []) (w := wM am T (m_filled (xs (i + 1)) (lg xs (i + 2)) u)) (v := wA ad T (s_filled (xs (i + 1)) (lg xs (i + 2)) t) o (o_filled (xs (i + 1)) (lg xs (i + 2)) t ob)) ⟨hx, hb, hml, hown, hts⟩ (mt_M_thrown l dC dI am T (m_filled (xs (i + 1)) (lg xs (i + 2)) u)) (cwV 0 hts (uw_V uw_796 uw_797 uw_798 uw_36 uw_799) rfl rfl rfl (by decide +kernel) ⟨(Nat.le_of_ble_eq_true rfl), (Nat.le_of_ble_eq_true rfl)⟩) (va_recv hK (ww_P.mp hP).2 (ci := 9) (q0 := 0) rfl rfl) rfl hl.1 rfl (Nat.le_of_ble_eq_true rfl) de_Y_690 ⟨hc, hsl⟩ hK hN hP hD hS (fun q h => h) (fun r3 _ H locs hw3 hP hD hS => ?_)
  have hw3 : r3 = nI ((m_filled (xs (i + 1)) (lg xs (i + 2)) u).2.2.2 0) := hw3
  refine lv_iload hx hb de_Y_693 (lv_at hl 1 rfl) ?_
  refine lv_icmp_eq (tgt := 700) hx hb de_Y_695 (by decide) (fun c1 => ?_) (fun c1 => absurd (by rw [hw3, hw]; exact E1) c1)
  refine lv_iload hx hb de_Y_700 (lv_at hl 1 rfl) ?_
  have hend : ∀ (H : Heap) (locs : List Loc) (ls : Array Slot), va_P (dC, dI) CLS (wA ad T (s_filled (xs (i + 1)) (lg xs (i + 2)) t) o (o_filled (xs (i + 1)) (lg xs (i + 2)) t ob) ++ wM am T (m_filled (xs (i + 1)) (lg xs (i + 2)) u)) H → va_D (AA s) (wA ad T (s_filled (xs (i + 1)) (lg xs (i + 2)) t) o (o_filled (xs (i + 1)) (lg xs (i + 2)) t ob) ++ wM am T (m_filled (xs (i + 1)) (lg xs (i + 2)) u)) → va_S (AA s) s.heap H locs → lv_has ls 8 [(6, .int r2), (5, .int r), (4, .int (nI i)), (3, .ref o), (2, .ref (am 0)), (1, .ref (ad 0)), (0, .ref b)] → W p l e room_1 s m #[Value.ref b] below meth c H locs (cells + 1) (slots + 6) Q (F0 m 717 ls []) := by
    intro H locs ls hP hD hS hl
    refine lv_goto (tgt := 1736) hx hb de_Y_717 (by decide) ?_
    exact kk _ _ _ H locs ls hR hP hD hS (lv_sub hl [2, 3, 4, 5, 6] rfl)
  refine lv_if_ne (tgt := 717) hx hb de_Y_702 (by decide) (fun c2 => ?_) (fun c2 => ?_)
  · exact hend H locs ls hP hD hS hl
  · skip
    have E3 : (o_filled (xs (i + 1)) (lg xs (i + 2)) t ob) 0 = r2.toInt64 := by
      rw [o_filled, if_pos (hw.symm.trans c2), hw2]
      exact (if_pos rfl).trans (E2 (hw.symm.trans c2))
    refine lv_aload_n hx hb de_Y_705 rfl (lv_at hl 3 rfl) ?_
    refine lv_iconst (v := 0) hx hb de_Y_706 (by decide) ?_
    refine rw_lald (f := o_filled (xs (i + 1)) (lg xs (i + 2)) t ob) (j := 0) hx hb hK hP 33 0 rfl rfl (by decide) (by decide) de_Y_707 ?_
    refine lv_iload hx hb de_Y_708 (lv_at hl 0 rfl) ?_
    refine lv_i2l (v := r2.toInt64) hx hb de_Y_710 rfl ?_
    exact rw_eq (tgt := 717) hx hb de_Y_711 de_Y_712 (by decide) (fun c3 => hend H locs ls hP hD hS hl) (fun c3 => absurd E3 c3)
set_option maxHeartbeats 4000000 in
set_option maxRecDepth 100000 in
theorem lc_hydro {p : Program} {l : Launch} {e : Env} {s : State} {m : MethodId} {below : List Frame} {meth : Method} {c : Code} {b L : Nat} {xs : Nat → Int32} {dC : Nat → ClassId} {dI : Nat → Nat → Nat} {T : Nat → ClassId} {RR : St → St → Prop} (hB : PT_base RR) (hpt : PT_hydro RR) (C : LAW p l s m c b L xs dC dI T) {ad am : Nat → Nat} {o i cells slots : Nat} {t u : St} {ob : Nat → Int64} {H : Heap} {locs : List Loc} {ls : Array Slot} {Q : State → Prop} (hi : i + 11 ≤ L) (hR : RR t u) (hc : cells + 1 ≤ 1100) (hsl : slots + 6 ≤ 9103) (hP : va_P (dC, dI) CLS (wA ad T t o ob ++ wM am T u) H) (hD : va_D (AA s) (wA ad T t o ob ++ wM am T u)) (hS : va_S (AA s) s.heap H locs) (hl : lv_has ls 8 (LV b ad am o i)) (kk : ∀ (t' u' : St) (ob' : Nat → Int64) (H : Heap) (locs : List Loc) (ls : Array Slot), RR t' u' → va_P (dC, dI) CLS (wA ad T t' o ob' ++ wM am T u') H → va_D (AA s) (wA ad T t' o ob' ++ wM am T u') → va_S (AA s) s.heap H locs → lv_has ls 8 (LV b ad am o i) → W p l e room_1 s m #[Value.ref b] below meth c H locs (cells + 1) (slots + 6) Q (F0 m 1736 ls [])) : W p l e room_1 s m #[Value.ref b] below meth c H locs cells slots Q (F0 m 720 ls []) := by
  obtain ⟨hx, hb, hml, hown, hts, hX, hbl, hL, hK, hN, hXQ, hlt⟩ := C
  obtain ⟨hI, hIM, hE, hEM, hz1, hz2, hz3, hz4⟩ := hB t u hR
  refine lv_aload_n hx hb de_Y_720 rfl (lv_at hl 3 rfl) ?_
  refine ld_l (j := 1) (n1 := 1) (n2 := 1) hx hb hown (hts _ uw_941) hX hbl hL hS hl 4 0 rfl rfl (by omega) de_Y_721 de_Y_722 (fun _ k => lv_iconst (v := nI 1) hx hb de_Y_724 (by decide) k) de_Y_725 de_Y_726 de_Y_727 de_Y_728 de_Y_730 de_Y_731 de_Y_732 (fun _ k => lv_iconst (v := nI 2) hx hb de_Y_734 (by decide) k) de_Y_735 de_Y_736 de_Y_737 de_Y_738 de_Y_741 de_Y_742 ?_
  refine ld_l (j := 3) (n1 := 1) (n2 := 1) hx hb hown (hts _ uw_941) hX hbl hL hS hl 4 0 rfl rfl (by omega) de_Y_743 de_Y_744 (fun _ k => lv_iconst (v := nI 3) hx hb de_Y_746 (by decide) k) de_Y_747 de_Y_748 de_Y_749 de_Y_750 de_Y_752 de_Y_753 de_Y_754 (fun _ k => lv_iconst (v := nI 4) hx hb de_Y_756 (by decide) k) de_Y_757 de_Y_758 de_Y_759 de_Y_760 de_Y_763 de_Y_764 ?_
  refine ld_l (j := 5) (n1 := 1) (n2 := 2) hx hb hown (hts _ uw_941) hX hbl hL hS hl 4 0 rfl rfl (by omega) de_Y_765 de_Y_766 (fun _ k => lv_iconst (v := nI 5) hx hb de_Y_768 (by decide) k) de_Y_769 de_Y_770 de_Y_771 de_Y_772 de_Y_774 de_Y_775 de_Y_776 (fun _ k => lv_bipush (v := nI 6) hx hb de_Y_778 (by decide) k) de_Y_780 de_Y_781 de_Y_782 de_Y_783 de_Y_786 de_Y_787 ?_
  refine lv_aload_n hx hb de_Y_788 rfl (lv_at hl 1 rfl) ?_
  have hE9 := hpt t u (lg xs (i + 1)) (lg xs (i + 3)) (lg xs (i + 5)) hR
  obtain ⟨E1, E2, hR⟩ := hE9
  refine cs_S (As := [.ref (ad 0), .long (lg xs (i + 1)), .long (lg xs (i + 3)), .long (lg xs (i + 5)), .ref o]) (rest := []) (w := wA ad T t o ob) (v := wM am T u) hx hb hml hown hts (uA_hydro l hlt dC dI ad T o ob t (lg xs (i + 1)) (lg xs (i + 3)) (lg xs (i + 5)) hI) rfl rfl ⟨(Nat.le_of_ble_eq_true rfl), (Nat.le_of_ble_eq_true rfl)⟩ uw_579 uw_578 uw_26 uw_577 ⟨by decide, by decide, by show Option.map _ _ = some 5; decide +kernel⟩ hl.1 rfl (Nat.le_of_ble_eq_true rfl) de_Y_789 ⟨hc, hsl⟩ hK hN hXQ hP hD hS (fun r _ H locs hw hP hD hS => ?_)
  have hw : r = k_hydro (lg xs (i + 1)) (lg xs (i + 3)) (lg xs (i + 5)) t := hw
  refine lv_istore (lv' := [(5, .int r), (4, .int (nI i)), (3, .ref o), (2, .ref (am 0)), (1, .ref (ad 0)), (0, .ref b)]) hx hb de_Y_792 hl (by decide) rfl (fun ls hl => ?_)
  refine lv_aload_n hx hb de_Y_794 rfl (lv_at hl 3 rfl) ?_
  refine ld_l (j := 1) (n1 := 1) (n2 := 1) hx hb hown (hts _ uw_941) hX hbl hL hS hl 5 1 rfl rfl (by omega) de_Y_795 de_Y_796 (fun _ k => lv_iconst (v := nI 1) hx hb de_Y_798 (by decide) k) de_Y_799 de_Y_800 de_Y_801 de_Y_802 de_Y_804 de_Y_805 de_Y_806 (fun _ k => lv_iconst (v := nI 2) hx hb de_Y_808 (by decide) k) de_Y_809 de_Y_810 de_Y_811 de_Y_812 de_Y_815 de_Y_816 ?_
  refine ld_l (j := 3) (n1 := 1) (n2 := 1) hx hb hown (hts _ uw_941) hX hbl hL hS hl 5 1 rfl rfl (by omega) de_Y_817 de_Y_818 (fun _ k => lv_iconst (v := nI 3) hx hb de_Y_820 (by decide) k) de_Y_821 de_Y_822 de_Y_823 de_Y_824 de_Y_826 de_Y_827 de_Y_828 (fun _ k => lv_iconst (v := nI 4) hx hb de_Y_830 (by decide) k) de_Y_831 de_Y_832 de_Y_833 de_Y_834 de_Y_837 de_Y_838 ?_
  refine ld_l (j := 5) (n1 := 1) (n2 := 2) hx hb hown (hts _ uw_941) hX hbl hL hS hl 5 1 rfl rfl (by omega) de_Y_839 de_Y_840 (fun _ k => lv_iconst (v := nI 5) hx hb de_Y_842 (by decide) k) de_Y_843 de_Y_844 de_Y_845 de_Y_846 de_Y_848 de_Y_849 de_Y_850 (fun _ k => lv_bipush (v := nI 6) hx hb de_Y_852 (by decide) k) de_Y_854 de_Y_855 de_Y_856 de_Y_857 de_Y_860 de_Y_861 ?_
  refine cb_Vi (As := [.long (lg xs (i + 1)), .long (lg xs (i + 3)), .long (lg xs (i + 5))]) (rest := []) (w := wM am T u) (v := wA ad T (s_hydro (lg xs (i + 1)) (lg xs (i + 3)) (lg xs (i + 5)) t) o (o_hydro (lg xs (i + 1)) (lg xs (i + 3)) (lg xs (i + 5)) t ob)) ⟨hx, hb, hml, hown, hts⟩ (mt_M_hydro l dC dI am T u (lg xs (i + 1)) (lg xs (i + 3)) (lg xs (i + 5)) hIM) (cwV 3 hts (uw_V uw_882 uw_883 uw_884 uw_36 uw_885) rfl rfl rfl (by decide +kernel) ⟨(Nat.le_of_ble_eq_true rfl), (Nat.le_of_ble_eq_true rfl)⟩) (va_recv hK (ww_P.mp hP).2 (ci := 9) (q0 := 0) rfl rfl) rfl hl.1 rfl (Nat.le_of_ble_eq_true rfl) de_Y_862 ⟨hc, hsl⟩ hK hN hP hD hS (fun q h => h) (fun r2 _ H locs hw2 hP hD hS => ?_)
  have hP : va_P (dC, dI) CLS (wA ad T (s_hydro (lg xs (i + 1)) (lg xs (i + 3)) (lg xs (i + 5)) t) o (o_hydro (lg xs (i + 1)) (lg xs (i + 3)) (lg xs (i + 5)) t ob) ++ wM am T (m_hydro (lg xs (i + 1)) (lg xs (i + 3)) (lg xs (i + 5)) u)) H := hP
  have hD : va_D (AA s) (wA ad T (s_hydro (lg xs (i + 1)) (lg xs (i + 3)) (lg xs (i + 5)) t) o (o_hydro (lg xs (i + 1)) (lg xs (i + 3)) (lg xs (i + 5)) t ob) ++ wM am T (m_hydro (lg xs (i + 1)) (lg xs (i + 3)) (lg xs (i + 5)) u)) := hD
  have hw2 : r2 = w_hydro (lg xs (i + 1)) (lg xs (i + 3)) (lg xs (i + 5)) u := hw2
  refine lv_istore (lv' := [(6, .int r2), (5, .int r), (4, .int (nI i)), (3, .ref o), (2, .ref (am 0)), (1, .ref (ad 0)), (0, .ref b)]) hx hb de_Y_865 hl (by decide) rfl (fun ls hl => ?_)
  refine lv_aload_n hx hb de_Y_867 rfl (lv_at hl 4 rfl) ?_
  refine cb_Vi (As := []) (rest := []) (w := wM am T (m_hydro (lg xs (i + 1)) (lg xs (i + 3)) (lg xs (i + 5)) u)) (v := wA ad T (s_hydro (lg xs (i + 1)) (lg xs (i + 3)) (lg xs (i + 5)) t) o (o_hydro (lg xs (i + 1)) (lg xs (i + 3)) (lg xs (i + 5)) t ob)) ⟨hx, hb, hml, hown, hts⟩ (mt_M_thrown l dC dI am T (m_hydro (lg xs (i + 1)) (lg xs (i + 3)) (lg xs (i + 5)) u)) (cwV 0 hts (uw_V uw_796 uw_797 uw_798 uw_36 uw_799) rfl rfl rfl (by decide +kernel) ⟨(Nat.le_of_ble_eq_true rfl), (Nat.le_of_ble_eq_true rfl)⟩) (va_recv hK (ww_P.mp hP).2 (ci := 9) (q0 := 0) rfl rfl) rfl hl.1 rfl (Nat.le_of_ble_eq_true rfl) de_Y_868 ⟨hc, hsl⟩ hK hN hP hD hS (fun q h => h) (fun r3 _ H locs hw3 hP hD hS => ?_)
  have hw3 : r3 = nI ((m_hydro (lg xs (i + 1)) (lg xs (i + 3)) (lg xs (i + 5)) u).2.2.2 0) := hw3
  refine lv_iload hx hb de_Y_871 (lv_at hl 1 rfl) ?_
  refine lv_icmp_eq (tgt := 878) hx hb de_Y_873 (by decide) (fun c1 => ?_) (fun c1 => absurd (by rw [hw3, hw]; exact E1) c1)
  refine lv_iload hx hb de_Y_878 (lv_at hl 1 rfl) ?_
  have hend : ∀ (H : Heap) (locs : List Loc) (ls : Array Slot), va_P (dC, dI) CLS (wA ad T (s_hydro (lg xs (i + 1)) (lg xs (i + 3)) (lg xs (i + 5)) t) o (o_hydro (lg xs (i + 1)) (lg xs (i + 3)) (lg xs (i + 5)) t ob) ++ wM am T (m_hydro (lg xs (i + 1)) (lg xs (i + 3)) (lg xs (i + 5)) u)) H → va_D (AA s) (wA ad T (s_hydro (lg xs (i + 1)) (lg xs (i + 3)) (lg xs (i + 5)) t) o (o_hydro (lg xs (i + 1)) (lg xs (i + 3)) (lg xs (i + 5)) t ob) ++ wM am T (m_hydro (lg xs (i + 1)) (lg xs (i + 3)) (lg xs (i + 5)) u)) → va_S (AA s) s.heap H locs → lv_has ls 8 [(6, .int r2), (5, .int r), (4, .int (nI i)), (3, .ref o), (2, .ref (am 0)), (1, .ref (ad 0)), (0, .ref b)] → W p l e room_1 s m #[Value.ref b] below meth c H locs (cells + 1) (slots + 6) Q (F0 m 895 ls []) := by
    intro H locs ls hP hD hS hl
    refine lv_goto (tgt := 1736) hx hb de_Y_895 (by decide) ?_
    exact kk _ _ _ H locs ls hR hP hD hS (lv_sub hl [2, 3, 4, 5, 6] rfl)
  refine lv_if_ne (tgt := 895) hx hb de_Y_880 (by decide) (fun c2 => ?_) (fun c2 => ?_)
  · exact hend H locs ls hP hD hS hl
  · skip
    have E3 : (o_hydro (lg xs (i + 1)) (lg xs (i + 3)) (lg xs (i + 5)) t ob) 0 = r2.toInt64 := by
      rw [o_hydro, if_pos (hw.symm.trans c2), hw2]
      exact (if_pos rfl).trans (E2 (hw.symm.trans c2))
    refine lv_aload_n hx hb de_Y_883 rfl (lv_at hl 3 rfl) ?_
    refine lv_iconst (v := 0) hx hb de_Y_884 (by decide) ?_
    refine rw_lald (f := o_hydro (lg xs (i + 1)) (lg xs (i + 3)) (lg xs (i + 5)) t ob) (j := 0) hx hb hK hP 33 0 rfl rfl (by decide) (by decide) de_Y_885 ?_
    refine lv_iload hx hb de_Y_886 (lv_at hl 0 rfl) ?_
    refine lv_i2l (v := r2.toInt64) hx hb de_Y_888 rfl ?_
    exact rw_eq (tgt := 895) hx hb de_Y_889 de_Y_890 (by decide) (fun c3 => hend H locs ls hP hD hS hl) (fun c3 => absurd E3 c3)
set_option maxHeartbeats 4000000 in
set_option maxRecDepth 100000 in
theorem lc_hull {p : Program} {l : Launch} {e : Env} {s : State} {m : MethodId} {below : List Frame} {meth : Method} {c : Code} {b L : Nat} {xs : Nat → Int32} {dC : Nat → ClassId} {dI : Nat → Nat → Nat} {T : Nat → ClassId} {RR : St → St → Prop} (hB : PT_base RR) (hpt : PT_hull RR) (C : LAW p l s m c b L xs dC dI T) {ad am : Nat → Nat} {o i cells slots : Nat} {t u : St} {ob : Nat → Int64} {H : Heap} {locs : List Loc} {ls : Array Slot} {Q : State → Prop} (hi : i + 11 ≤ L) (hR : RR t u) (hc : cells + 1 ≤ 1100) (hsl : slots + 6 ≤ 9103) (hP : va_P (dC, dI) CLS (wA ad T t o ob ++ wM am T u) H) (hD : va_D (AA s) (wA ad T t o ob ++ wM am T u)) (hS : va_S (AA s) s.heap H locs) (hl : lv_has ls 8 (LV b ad am o i)) (kk : ∀ (t' u' : St) (ob' : Nat → Int64) (H : Heap) (locs : List Loc) (ls : Array Slot), RR t' u' → va_P (dC, dI) CLS (wA ad T t' o ob' ++ wM am T u') H → va_D (AA s) (wA ad T t' o ob' ++ wM am T u') → va_S (AA s) s.heap H locs → lv_has ls 8 (LV b ad am o i) → W p l e room_1 s m #[Value.ref b] below meth c H locs (cells + 1) (slots + 6) Q (F0 m 1736 ls [])) : W p l e room_1 s m #[Value.ref b] below meth c H locs cells slots Q (F0 m 898 ls []) := by
  obtain ⟨hx, hb, hml, hown, hts, hX, hbl, hL, hK, hN, hXQ, hlt⟩ := C
  obtain ⟨hI, hIM, hE, hEM, hz1, hz2, hz3, hz4⟩ := hB t u hR
  refine lv_aload_n hx hb de_Y_898 rfl (lv_at hl 3 rfl) ?_
  refine ld_l (j := 1) (n1 := 1) (n2 := 1) hx hb hown (hts _ uw_941) hX hbl hL hS hl 4 0 rfl rfl (by omega) de_Y_899 de_Y_900 (fun _ k => lv_iconst (v := nI 1) hx hb de_Y_902 (by decide) k) de_Y_903 de_Y_904 de_Y_905 de_Y_906 de_Y_908 de_Y_909 de_Y_910 (fun _ k => lv_iconst (v := nI 2) hx hb de_Y_912 (by decide) k) de_Y_913 de_Y_914 de_Y_915 de_Y_916 de_Y_919 de_Y_920 ?_
  refine ld_l (j := 3) (n1 := 1) (n2 := 1) hx hb hown (hts _ uw_941) hX hbl hL hS hl 4 0 rfl rfl (by omega) de_Y_921 de_Y_922 (fun _ k => lv_iconst (v := nI 3) hx hb de_Y_924 (by decide) k) de_Y_925 de_Y_926 de_Y_927 de_Y_928 de_Y_930 de_Y_931 de_Y_932 (fun _ k => lv_iconst (v := nI 4) hx hb de_Y_934 (by decide) k) de_Y_935 de_Y_936 de_Y_937 de_Y_938 de_Y_941 de_Y_942 ?_
  have hR := hpt t u (lg xs (i + 1)) (lg xs (i + 3)) hR
  have hP : va_P (dC, dI) CLS (wS ad T t ++ ([(o, .inl (T 0, 1, .inr (.inl ob)))] ++ wM am T u)) H := by rw [← List.append_assoc]; exact hP
  have hD : va_D (AA s) (wS ad T t ++ ([(o, .inl (T 0, 1, .inr (.inl ob)))] ++ wM am T u)) := by rw [← List.append_assoc]; exact hD
  refine cf_Vi (As := [.long (lg xs (i + 1)), .long (lg xs (i + 3))]) (rest := []) (w := wS ad T t) (v := [(o, .inl (T 0, 1, .inr (.inl ob)))] ++ wM am T u) ⟨hx, hb, hml, hown, hts⟩ (mt_S_hull l dC dI ad T t (lg xs (i + 1)) (lg xs (i + 3)) ) (cwV 2 hts (uw_V uw_287 uw_288 uw_289 uw_27 uw_290) rfl rfl rfl (by decide +kernel) ⟨(Nat.le_of_ble_eq_true rfl), (Nat.le_of_ble_eq_true rfl)⟩) (va_recv hK (ww_P.mp hP).1 (ci := 0) (q0 := 0) rfl rfl) rfl hl.1 rfl (Nat.le_of_ble_eq_true rfl) de_Y_943 ⟨Nat.le_of_succ_le hc, by show slots ≤ 9103; omega⟩ hK hN hP hD hS (fun q h => h) (fun r _ H locs hw hP hD hS => ?_)
  have hP : va_P (dC, dI) CLS (wA ad T (x_hullt (lg xs (i + 1)) (lg xs (i + 3)) t) o ob ++ wM am T u) H := by rw [← List.append_assoc] at hP; exact hP
  have hD : va_D (AA s) (wA ad T (x_hullt (lg xs (i + 1)) (lg xs (i + 3)) t) o ob ++ wM am T u) := by rw [← List.append_assoc] at hD; exact hD
  refine lv_aload_n hx hb de_Y_946 rfl (lv_at hl 2 rfl) ?_
  refine ld_l (j := 1) (n1 := 1) (n2 := 1) hx hb hown (hts _ uw_941) hX hbl hL hS hl 4 0 rfl rfl (by omega) de_Y_947 de_Y_948 (fun _ k => lv_iconst (v := nI 1) hx hb de_Y_950 (by decide) k) de_Y_951 de_Y_952 de_Y_953 de_Y_954 de_Y_956 de_Y_957 de_Y_958 (fun _ k => lv_iconst (v := nI 2) hx hb de_Y_960 (by decide) k) de_Y_961 de_Y_962 de_Y_963 de_Y_964 de_Y_967 de_Y_968 ?_
  refine ld_l (j := 3) (n1 := 1) (n2 := 1) hx hb hown (hts _ uw_941) hX hbl hL hS hl 4 0 rfl rfl (by omega) de_Y_969 de_Y_970 (fun _ k => lv_iconst (v := nI 3) hx hb de_Y_972 (by decide) k) de_Y_973 de_Y_974 de_Y_975 de_Y_976 de_Y_978 de_Y_979 de_Y_980 (fun _ k => lv_iconst (v := nI 4) hx hb de_Y_982 (by decide) k) de_Y_983 de_Y_984 de_Y_985 de_Y_986 de_Y_989 de_Y_990 ?_
  refine cb_Vi (As := [.long (lg xs (i + 1)), .long (lg xs (i + 3))]) (rest := [.int r]) (w := wM am T u) (v := wA ad T (x_hullt (lg xs (i + 1)) (lg xs (i + 3)) t) o ob) ⟨hx, hb, hml, hown, hts⟩ (mt_M_hull l dC dI am T u (lg xs (i + 1)) (lg xs (i + 3)) hIM) (cwV 2 hts (uw_V uw_887 uw_888 uw_889 uw_36 uw_890) rfl rfl rfl (by decide +kernel) ⟨(Nat.le_of_ble_eq_true rfl), (Nat.le_of_ble_eq_true rfl)⟩) (va_recv hK (ww_P.mp hP).2 (ci := 9) (q0 := 0) rfl rfl) rfl hl.1 rfl (Nat.le_of_ble_eq_true rfl) de_Y_991 ⟨Nat.le_of_succ_le hc, by show slots ≤ 9103; omega⟩ hK hN hP hD hS (fun q h => h) (fun r2 _ H locs hw2 hP hD hS => ?_)
  have hP : va_P (dC, dI) CLS (wA ad T (x_hullt (lg xs (i + 1)) (lg xs (i + 3)) t) o ob ++ wM am T (m_hull (lg xs (i + 1)) (lg xs (i + 3)) u)) H := hP
  have hD : va_D (AA s) (wA ad T (x_hullt (lg xs (i + 1)) (lg xs (i + 3)) t) o ob ++ wM am T (m_hull (lg xs (i + 1)) (lg xs (i + 3)) u)) := hD
  have E : r = r2 := by
    rcases hw with ⟨g1, g2⟩ | ⟨g1, g2⟩ <;> rcases hw2 with ⟨g3, g4⟩ | ⟨g3, g4⟩
    · rw [g1, g3]
    · exact absurd g2 g4
    · exact absurd g4 g2
    · rw [g1, g3]
  exact lv_icmp_eq (tgt := 1736) hx hb de_Y_994 (by decide) (fun c3 => W.widen (Nat.le_succ _) (Nat.le_add_right _ _) (kk _ _ _ H locs ls hR hP hD hS hl)) (fun c3 => absurd E c3)
set_option maxHeartbeats 4000000 in
set_option maxRecDepth 100000 in
theorem lc_value {p : Program} {l : Launch} {e : Env} {s : State} {m : MethodId} {below : List Frame} {meth : Method} {c : Code} {b L : Nat} {xs : Nat → Int32} {dC : Nat → ClassId} {dI : Nat → Nat → Nat} {T : Nat → ClassId} {RR : St → St → Prop} (hB : PT_base RR) (hpt : PT_value RR) (C : LAW p l s m c b L xs dC dI T) {ad am : Nat → Nat} {o i cells slots : Nat} {t u : St} {ob : Nat → Int64} {H : Heap} {locs : List Loc} {ls : Array Slot} {Q : State → Prop} (hi : i + 11 ≤ L) (hR : RR t u) (hc : cells + 1 ≤ 1100) (hsl : slots + 6 ≤ 9103) (hP : va_P (dC, dI) CLS (wA ad T t o ob ++ wM am T u) H) (hD : va_D (AA s) (wA ad T t o ob ++ wM am T u)) (hS : va_S (AA s) s.heap H locs) (hl : lv_has ls 8 (LV b ad am o i)) (kk : ∀ (t' u' : St) (ob' : Nat → Int64) (H : Heap) (locs : List Loc) (ls : Array Slot), RR t' u' → va_P (dC, dI) CLS (wA ad T t' o ob' ++ wM am T u') H → va_D (AA s) (wA ad T t' o ob' ++ wM am T u') → va_S (AA s) s.heap H locs → lv_has ls 8 (LV b ad am o i) → W p l e room_1 s m #[Value.ref b] below meth c H locs (cells + 1) (slots + 6) Q (F0 m 1736 ls [])) : W p l e room_1 s m #[Value.ref b] below meth c H locs cells slots Q (F0 m 999 ls []) := by
  obtain ⟨hx, hb, hml, hown, hts, hX, hbl, hL, hK, hN, hXQ, hlt⟩ := C
  obtain ⟨hI, hIM, hE, hEM, hz1, hz2, hz3, hz4⟩ := hB t u hR
  refine lv_aload_n hx hb de_Y_999 rfl (lv_at hl 3 rfl) ?_
  refine ld_i (j := 1) (n1 := 1) hx hb hX hbl hL hS hl 4 0 rfl rfl (by omega) de_Y_1000 de_Y_1001 (fun _ k => lv_iconst (v := nI 1) hx hb de_Y_1003 (by decide) k) de_Y_1004 de_Y_1005 ?_
  refine ld_i (j := 2) (n1 := 1) hx hb hX hbl hL hS hl 4 0 rfl rfl (by omega) de_Y_1006 de_Y_1007 (fun _ k => lv_iconst (v := nI 2) hx hb de_Y_1009 (by decide) k) de_Y_1010 de_Y_1011 ?_
  refine lv_aload_n hx hb de_Y_1012 rfl (lv_at hl 1 rfl) ?_
  have hE9 := hpt t u (xs (i + 1)) (xs (i + 2)) hR
  obtain ⟨E1, E2, hR⟩ := hE9
  refine cs_S (As := [.ref (ad 0), .int (xs (i + 1)), .int (xs (i + 2)), .ref o]) (rest := []) (w := wA ad T t o ob) (v := wM am T u) hx hb hml hown hts (uA_value l hlt dC dI ad T o ob t (xs (i + 1)) (xs (i + 2)) hI) rfl rfl ⟨(Nat.le_of_ble_eq_true rfl), (Nat.le_of_ble_eq_true rfl)⟩ uw_597 uw_596 uw_26 uw_595 ⟨by decide, by decide, by show Option.map _ _ = some 4; decide +kernel⟩ hl.1 rfl (Nat.le_of_ble_eq_true rfl) de_Y_1013 ⟨hc, hsl⟩ hK hN hXQ hP hD hS (fun r _ H locs hw hP hD hS => ?_)
  have hw : r = k_value (xs (i + 1)) (xs (i + 2)) t := hw
  refine lv_istore (lv' := [(5, .int r), (4, .int (nI i)), (3, .ref o), (2, .ref (am 0)), (1, .ref (ad 0)), (0, .ref b)]) hx hb de_Y_1016 hl (by decide) rfl (fun ls hl => ?_)
  refine lv_aload_n hx hb de_Y_1018 rfl (lv_at hl 3 rfl) ?_
  refine ld_i (j := 1) (n1 := 1) hx hb hX hbl hL hS hl 5 1 rfl rfl (by omega) de_Y_1019 de_Y_1020 (fun _ k => lv_iconst (v := nI 1) hx hb de_Y_1022 (by decide) k) de_Y_1023 de_Y_1024 ?_
  refine ld_i (j := 2) (n1 := 1) hx hb hX hbl hL hS hl 5 1 rfl rfl (by omega) de_Y_1025 de_Y_1026 (fun _ k => lv_iconst (v := nI 2) hx hb de_Y_1028 (by decide) k) de_Y_1029 de_Y_1030 ?_
  refine cb_Vl (As := [.int (xs (i + 1)), .int (xs (i + 2))]) (rest := []) (w := wM am T u) (v := wA ad T (s_value (xs (i + 1)) (xs (i + 2)) t) o (o_value (xs (i + 1)) (xs (i + 2)) t ob)) ⟨hx, hb, hml, hown, hts⟩ (mt_M_value l dC dI am T u (xs (i + 1)) (xs (i + 2)) hIM (hz4 (xs (i + 1)) (xs (i + 2)))) (cwV 2 hts (uw_V uw_800 uw_801 uw_802 uw_36 uw_803) rfl rfl rfl (by decide +kernel) ⟨(Nat.le_of_ble_eq_true rfl), (Nat.le_of_ble_eq_true rfl)⟩) (va_recv hK (ww_P.mp hP).2 (ci := 9) (q0 := 0) rfl rfl) rfl hl.1 rfl (Nat.le_of_ble_eq_true rfl) de_Y_1031 ⟨hc, hsl⟩ hK hN hP hD hS (fun q h => h) (fun r2 _ H locs hw2 hP hD hS => ?_)
  have hP : va_P (dC, dI) CLS (wA ad T (s_value (xs (i + 1)) (xs (i + 2)) t) o (o_value (xs (i + 1)) (xs (i + 2)) t ob) ++ wM am T (m_value (xs (i + 1)) (xs (i + 2)) u)) H := hP
  have hD : va_D (AA s) (wA ad T (s_value (xs (i + 1)) (xs (i + 2)) t) o (o_value (xs (i + 1)) (xs (i + 2)) t ob) ++ wM am T (m_value (xs (i + 1)) (xs (i + 2)) u)) := hD
  have hw2 : r2 = w_value (xs (i + 1)) (xs (i + 2)) u := hw2
  refine lv_lstore (lv' := [(6, .long r2), (5, .int r), (4, .int (nI i)), (3, .ref o), (2, .ref (am 0)), (1, .ref (ad 0)), (0, .ref b)]) hx hb de_Y_1034 hl (by decide) rfl (fun ls hl => ?_)
  refine lv_aload_n hx hb de_Y_1036 rfl (lv_at hl 4 rfl) ?_
  refine cb_Vi (As := []) (rest := []) (w := wM am T (m_value (xs (i + 1)) (xs (i + 2)) u)) (v := wA ad T (s_value (xs (i + 1)) (xs (i + 2)) t) o (o_value (xs (i + 1)) (xs (i + 2)) t ob)) ⟨hx, hb, hml, hown, hts⟩ (mt_M_thrown l dC dI am T (m_value (xs (i + 1)) (xs (i + 2)) u)) (cwV 0 hts (uw_V uw_796 uw_797 uw_798 uw_36 uw_799) rfl rfl rfl (by decide +kernel) ⟨(Nat.le_of_ble_eq_true rfl), (Nat.le_of_ble_eq_true rfl)⟩) (va_recv hK (ww_P.mp hP).2 (ci := 9) (q0 := 0) rfl rfl) rfl hl.1 rfl (Nat.le_of_ble_eq_true rfl) de_Y_1037 ⟨hc, hsl⟩ hK hN hP hD hS (fun q h => h) (fun r3 _ H locs hw3 hP hD hS => ?_)
  have hw3 : r3 = nI ((m_value (xs (i + 1)) (xs (i + 2)) u).2.2.2 0) := hw3
  refine lv_iload hx hb de_Y_1040 (lv_at hl 1 rfl) ?_
  refine lv_icmp_eq (tgt := 1047) hx hb de_Y_1042 (by decide) (fun c1 => ?_) (fun c1 => absurd (by rw [hw3, hw]; exact E1) c1)
  refine lv_iload hx hb de_Y_1047 (lv_at hl 1 rfl) ?_
  have hend : ∀ (H : Heap) (locs : List Loc) (ls : Array Slot), va_P (dC, dI) CLS (wA ad T (s_value (xs (i + 1)) (xs (i + 2)) t) o (o_value (xs (i + 1)) (xs (i + 2)) t ob) ++ wM am T (m_value (xs (i + 1)) (xs (i + 2)) u)) H → va_D (AA s) (wA ad T (s_value (xs (i + 1)) (xs (i + 2)) t) o (o_value (xs (i + 1)) (xs (i + 2)) t ob) ++ wM am T (m_value (xs (i + 1)) (xs (i + 2)) u)) → va_S (AA s) s.heap H locs → lv_has ls 8 [(6, .long r2), (5, .int r), (4, .int (nI i)), (3, .ref o), (2, .ref (am 0)), (1, .ref (ad 0)), (0, .ref b)] → W p l e room_1 s m #[Value.ref b] below meth c H locs (cells + 1) (slots + 6) Q (F0 m 1063 ls []) := by
    intro H locs ls hP hD hS hl
    refine lv_goto (tgt := 1736) hx hb de_Y_1063 (by decide) ?_
    exact kk _ _ _ H locs ls hR hP hD hS (lv_sub hl [2, 3, 4, 5, 6] rfl)
  refine lv_if_ne (tgt := 1063) hx hb de_Y_1049 (by decide) (fun c2 => ?_) (fun c2 => ?_)
  · exact hend H locs ls hP hD hS hl
  · skip
    have E3 : (o_value (xs (i + 1)) (xs (i + 2)) t ob) 0 = r2 := by
      rw [o_value, if_pos (hw.symm.trans c2), hw2]
      exact (if_pos rfl).trans (E2 (hw.symm.trans c2))
    refine lv_aload_n hx hb de_Y_1052 rfl (lv_at hl 3 rfl) ?_
    refine lv_iconst (v := 0) hx hb de_Y_1053 (by decide) ?_
    refine rw_lald (f := o_value (xs (i + 1)) (xs (i + 2)) t ob) (j := 0) hx hb hK hP 33 0 rfl rfl (by decide) (by decide) de_Y_1054 ?_
    refine lv_lload hx hb de_Y_1055 (lv_at hl 0 rfl) ?_
    exact rw_eq (tgt := 1063) hx hb de_Y_1057 de_Y_1058 (by decide) (fun c3 => hend H locs ls hP hD hS hl) (fun c3 => absurd E3 c3)
set_option maxHeartbeats 4000000 in
set_option maxRecDepth 100000 in
theorem lc_shear {p : Program} {l : Launch} {e : Env} {s : State} {m : MethodId} {below : List Frame} {meth : Method} {c : Code} {b L : Nat} {xs : Nat → Int32} {dC : Nat → ClassId} {dI : Nat → Nat → Nat} {T : Nat → ClassId} {RR : St → St → Prop} (hB : PT_base RR) (hpt : PT_shear RR) (C : LAW p l s m c b L xs dC dI T) {ad am : Nat → Nat} {o i cells slots : Nat} {t u : St} {ob : Nat → Int64} {H : Heap} {locs : List Loc} {ls : Array Slot} {Q : State → Prop} (hi : i + 11 ≤ L) (hR : RR t u) (hc : cells + 1 ≤ 1100) (hsl : slots + 6 ≤ 9103) (hP : va_P (dC, dI) CLS (wA ad T t o ob ++ wM am T u) H) (hD : va_D (AA s) (wA ad T t o ob ++ wM am T u)) (hS : va_S (AA s) s.heap H locs) (hl : lv_has ls 8 (LV b ad am o i)) (kk : ∀ (t' u' : St) (ob' : Nat → Int64) (H : Heap) (locs : List Loc) (ls : Array Slot), RR t' u' → va_P (dC, dI) CLS (wA ad T t' o ob' ++ wM am T u') H → va_D (AA s) (wA ad T t' o ob' ++ wM am T u') → va_S (AA s) s.heap H locs → lv_has ls 8 (LV b ad am o i) → W p l e room_1 s m #[Value.ref b] below meth c H locs (cells + 1) (slots + 6) Q (F0 m 1736 ls [])) : W p l e room_1 s m #[Value.ref b] below meth c H locs cells slots Q (F0 m 1066 ls []) := by
  obtain ⟨hx, hb, hml, hown, hts, hX, hbl, hL, hK, hN, hXQ, hlt⟩ := C
  obtain ⟨hI, hIM, hE, hEM, hz1, hz2, hz3, hz4⟩ := hB t u hR
  refine lv_aload_n hx hb de_Y_1066 rfl (lv_at hl 3 rfl) ?_
  refine ld_l (j := 1) (n1 := 1) (n2 := 1) hx hb hown (hts _ uw_941) hX hbl hL hS hl 4 0 rfl rfl (by omega) de_Y_1067 de_Y_1068 (fun _ k => lv_iconst (v := nI 1) hx hb de_Y_1070 (by decide) k) de_Y_1071 de_Y_1072 de_Y_1073 de_Y_1074 de_Y_1076 de_Y_1077 de_Y_1078 (fun _ k => lv_iconst (v := nI 2) hx hb de_Y_1080 (by decide) k) de_Y_1081 de_Y_1082 de_Y_1083 de_Y_1084 de_Y_1087 de_Y_1088 ?_
  refine lv_aload_n hx hb de_Y_1089 rfl (lv_at hl 1 rfl) ?_
  have hE9 := hpt t u (lg xs (i + 1)) hR
  obtain ⟨E1, E2, hR⟩ := hE9
  refine cs_S (As := [.ref (ad 0), .long (lg xs (i + 1)), .ref o]) (rest := []) (w := wA ad T t o ob) (v := wM am T u) hx hb hml hown hts (uA_shear l hlt dC dI ad T o ob t (lg xs (i + 1)) hI) rfl rfl ⟨(Nat.le_of_ble_eq_true rfl), (Nat.le_of_ble_eq_true rfl)⟩ uw_631 uw_630 uw_26 uw_629 ⟨by decide, by decide, by show Option.map _ _ = some 3; decide +kernel⟩ hl.1 rfl (Nat.le_of_ble_eq_true rfl) de_Y_1090 ⟨hc, hsl⟩ hK hN hXQ hP hD hS (fun r _ H locs hw hP hD hS => ?_)
  have hw : r = k_shear (lg xs (i + 1)) t := hw
  refine lv_istore (lv' := [(5, .int r), (4, .int (nI i)), (3, .ref o), (2, .ref (am 0)), (1, .ref (ad 0)), (0, .ref b)]) hx hb de_Y_1093 hl (by decide) rfl (fun ls hl => ?_)
  refine lv_aload_n hx hb de_Y_1095 rfl (lv_at hl 3 rfl) ?_
  refine ld_l (j := 1) (n1 := 1) (n2 := 1) hx hb hown (hts _ uw_941) hX hbl hL hS hl 5 1 rfl rfl (by omega) de_Y_1096 de_Y_1097 (fun _ k => lv_iconst (v := nI 1) hx hb de_Y_1099 (by decide) k) de_Y_1100 de_Y_1101 de_Y_1102 de_Y_1103 de_Y_1105 de_Y_1106 de_Y_1107 (fun _ k => lv_iconst (v := nI 2) hx hb de_Y_1109 (by decide) k) de_Y_1110 de_Y_1111 de_Y_1112 de_Y_1113 de_Y_1116 de_Y_1117 ?_
  refine cb_Vl (As := [.long (lg xs (i + 1))]) (rest := []) (w := wM am T u) (v := wA ad T (s_shear (lg xs (i + 1)) t) o (o_shear (lg xs (i + 1)) t ob)) ⟨hx, hb, hml, hown, hts⟩ (mt_M_shear l dC dI am T u (lg xs (i + 1)) hIM hz1) (cwV 1 hts (uw_V uw_834 uw_835 uw_836 uw_36 uw_837) rfl rfl rfl (by decide +kernel) ⟨(Nat.le_of_ble_eq_true rfl), (Nat.le_of_ble_eq_true rfl)⟩) (va_recv hK (ww_P.mp hP).2 (ci := 9) (q0 := 0) rfl rfl) rfl hl.1 rfl (Nat.le_of_ble_eq_true rfl) de_Y_1118 ⟨hc, hsl⟩ hK hN hP hD hS (fun q h => h) (fun r2 _ H locs hw2 hP hD hS => ?_)
  have hP : va_P (dC, dI) CLS (wA ad T (s_shear (lg xs (i + 1)) t) o (o_shear (lg xs (i + 1)) t ob) ++ wM am T (m_shear (lg xs (i + 1)) u)) H := hP
  have hD : va_D (AA s) (wA ad T (s_shear (lg xs (i + 1)) t) o (o_shear (lg xs (i + 1)) t ob) ++ wM am T (m_shear (lg xs (i + 1)) u)) := hD
  have hw2 : r2 = w_shear (lg xs (i + 1)) u := hw2
  refine lv_lstore (lv' := [(6, .long r2), (5, .int r), (4, .int (nI i)), (3, .ref o), (2, .ref (am 0)), (1, .ref (ad 0)), (0, .ref b)]) hx hb de_Y_1121 hl (by decide) rfl (fun ls hl => ?_)
  refine lv_aload_n hx hb de_Y_1123 rfl (lv_at hl 4 rfl) ?_
  refine cb_Vi (As := []) (rest := []) (w := wM am T (m_shear (lg xs (i + 1)) u)) (v := wA ad T (s_shear (lg xs (i + 1)) t) o (o_shear (lg xs (i + 1)) t ob)) ⟨hx, hb, hml, hown, hts⟩ (mt_M_thrown l dC dI am T (m_shear (lg xs (i + 1)) u)) (cwV 0 hts (uw_V uw_796 uw_797 uw_798 uw_36 uw_799) rfl rfl rfl (by decide +kernel) ⟨(Nat.le_of_ble_eq_true rfl), (Nat.le_of_ble_eq_true rfl)⟩) (va_recv hK (ww_P.mp hP).2 (ci := 9) (q0 := 0) rfl rfl) rfl hl.1 rfl (Nat.le_of_ble_eq_true rfl) de_Y_1124 ⟨hc, hsl⟩ hK hN hP hD hS (fun q h => h) (fun r3 _ H locs hw3 hP hD hS => ?_)
  have hw3 : r3 = nI ((m_shear (lg xs (i + 1)) u).2.2.2 0) := hw3
  refine lv_iload hx hb de_Y_1127 (lv_at hl 1 rfl) ?_
  refine lv_icmp_eq (tgt := 1134) hx hb de_Y_1129 (by decide) (fun c1 => ?_) (fun c1 => absurd (by rw [hw3, hw]; exact E1) c1)
  refine lv_iload hx hb de_Y_1134 (lv_at hl 1 rfl) ?_
  have hend : ∀ (H : Heap) (locs : List Loc) (ls : Array Slot), va_P (dC, dI) CLS (wA ad T (s_shear (lg xs (i + 1)) t) o (o_shear (lg xs (i + 1)) t ob) ++ wM am T (m_shear (lg xs (i + 1)) u)) H → va_D (AA s) (wA ad T (s_shear (lg xs (i + 1)) t) o (o_shear (lg xs (i + 1)) t ob) ++ wM am T (m_shear (lg xs (i + 1)) u)) → va_S (AA s) s.heap H locs → lv_has ls 8 [(6, .long r2), (5, .int r), (4, .int (nI i)), (3, .ref o), (2, .ref (am 0)), (1, .ref (ad 0)), (0, .ref b)] → W p l e room_1 s m #[Value.ref b] below meth c H locs (cells + 1) (slots + 6) Q (F0 m 1150 ls []) := by
    intro H locs ls hP hD hS hl
    refine lv_goto (tgt := 1736) hx hb de_Y_1150 (by decide) ?_
    exact kk _ _ _ H locs ls hR hP hD hS (lv_sub hl [2, 3, 4, 5, 6] rfl)
  refine lv_if_ne (tgt := 1150) hx hb de_Y_1136 (by decide) (fun c2 => ?_) (fun c2 => ?_)
  · exact hend H locs ls hP hD hS hl
  · skip
    have E3 : (o_shear (lg xs (i + 1)) t ob) 0 = r2 := by
      rw [o_shear, if_pos (hw.symm.trans c2), hw2]
      exact (if_pos rfl).trans (E2 (hw.symm.trans c2))
    refine lv_aload_n hx hb de_Y_1139 rfl (lv_at hl 3 rfl) ?_
    refine lv_iconst (v := 0) hx hb de_Y_1140 (by decide) ?_
    refine rw_lald (f := o_shear (lg xs (i + 1)) t ob) (j := 0) hx hb hK hP 33 0 rfl rfl (by decide) (by decide) de_Y_1141 ?_
    refine lv_lload hx hb de_Y_1142 (lv_at hl 0 rfl) ?_
    exact rw_eq (tgt := 1150) hx hb de_Y_1144 de_Y_1145 (by decide) (fun c3 => hend H locs ls hP hD hS hl) (fun c3 => absurd E3 c3)
set_option maxHeartbeats 4000000 in
set_option maxRecDepth 100000 in
theorem lc_bending {p : Program} {l : Launch} {e : Env} {s : State} {m : MethodId} {below : List Frame} {meth : Method} {c : Code} {b L : Nat} {xs : Nat → Int32} {dC : Nat → ClassId} {dI : Nat → Nat → Nat} {T : Nat → ClassId} {RR : St → St → Prop} (hB : PT_base RR) (hpt : PT_bending RR) (C : LAW p l s m c b L xs dC dI T) {ad am : Nat → Nat} {o i cells slots : Nat} {t u : St} {ob : Nat → Int64} {H : Heap} {locs : List Loc} {ls : Array Slot} {Q : State → Prop} (hi : i + 11 ≤ L) (hR : RR t u) (hc : cells + 1 ≤ 1100) (hsl : slots + 6 ≤ 9103) (hP : va_P (dC, dI) CLS (wA ad T t o ob ++ wM am T u) H) (hD : va_D (AA s) (wA ad T t o ob ++ wM am T u)) (hS : va_S (AA s) s.heap H locs) (hl : lv_has ls 8 (LV b ad am o i)) (kk : ∀ (t' u' : St) (ob' : Nat → Int64) (H : Heap) (locs : List Loc) (ls : Array Slot), RR t' u' → va_P (dC, dI) CLS (wA ad T t' o ob' ++ wM am T u') H → va_D (AA s) (wA ad T t' o ob' ++ wM am T u') → va_S (AA s) s.heap H locs → lv_has ls 8 (LV b ad am o i) → W p l e room_1 s m #[Value.ref b] below meth c H locs (cells + 1) (slots + 6) Q (F0 m 1736 ls [])) : W p l e room_1 s m #[Value.ref b] below meth c H locs cells slots Q (F0 m 1153 ls []) := by
  obtain ⟨hx, hb, hml, hown, hts, hX, hbl, hL, hK, hN, hXQ, hlt⟩ := C
  obtain ⟨hI, hIM, hE, hEM, hz1, hz2, hz3, hz4⟩ := hB t u hR
  refine lv_aload_n hx hb de_Y_1153 rfl (lv_at hl 3 rfl) ?_
  refine ld_l (j := 1) (n1 := 1) (n2 := 1) hx hb hown (hts _ uw_941) hX hbl hL hS hl 4 0 rfl rfl (by omega) de_Y_1154 de_Y_1155 (fun _ k => lv_iconst (v := nI 1) hx hb de_Y_1157 (by decide) k) de_Y_1158 de_Y_1159 de_Y_1160 de_Y_1161 de_Y_1163 de_Y_1164 de_Y_1165 (fun _ k => lv_iconst (v := nI 2) hx hb de_Y_1167 (by decide) k) de_Y_1168 de_Y_1169 de_Y_1170 de_Y_1171 de_Y_1174 de_Y_1175 ?_
  refine lv_aload_n hx hb de_Y_1176 rfl (lv_at hl 1 rfl) ?_
  have hE9 := hpt t u (lg xs (i + 1)) hR
  obtain ⟨E1, E2, hR⟩ := hE9
  refine cs_S (As := [.ref (ad 0), .long (lg xs (i + 1)), .ref o]) (rest := []) (w := wA ad T t o ob) (v := wM am T u) hx hb hml hown hts (uA_bending l hlt dC dI ad T o ob t (lg xs (i + 1)) hI) rfl rfl ⟨(Nat.le_of_ble_eq_true rfl), (Nat.le_of_ble_eq_true rfl)⟩ uw_639 uw_638 uw_26 uw_637 ⟨by decide, by decide, by show Option.map _ _ = some 3; decide +kernel⟩ hl.1 rfl (Nat.le_of_ble_eq_true rfl) de_Y_1177 ⟨hc, hsl⟩ hK hN hXQ hP hD hS (fun r _ H locs hw hP hD hS => ?_)
  have hw : r = k_bending (lg xs (i + 1)) t := hw
  refine lv_istore (lv' := [(5, .int r), (4, .int (nI i)), (3, .ref o), (2, .ref (am 0)), (1, .ref (ad 0)), (0, .ref b)]) hx hb de_Y_1180 hl (by decide) rfl (fun ls hl => ?_)
  refine lv_aload_n hx hb de_Y_1182 rfl (lv_at hl 3 rfl) ?_
  refine ld_l (j := 1) (n1 := 1) (n2 := 1) hx hb hown (hts _ uw_941) hX hbl hL hS hl 5 1 rfl rfl (by omega) de_Y_1183 de_Y_1184 (fun _ k => lv_iconst (v := nI 1) hx hb de_Y_1186 (by decide) k) de_Y_1187 de_Y_1188 de_Y_1189 de_Y_1190 de_Y_1192 de_Y_1193 de_Y_1194 (fun _ k => lv_iconst (v := nI 2) hx hb de_Y_1196 (by decide) k) de_Y_1197 de_Y_1198 de_Y_1199 de_Y_1200 de_Y_1203 de_Y_1204 ?_
  refine cb_Vl (As := [.long (lg xs (i + 1))]) (rest := []) (w := wM am T u) (v := wA ad T (s_bending (lg xs (i + 1)) t) o (o_bending (lg xs (i + 1)) t ob)) ⟨hx, hb, hml, hown, hts⟩ (mt_M_bending l dC dI am T u (lg xs (i + 1)) hIM hz1) (cwV 1 hts (uw_V uw_853 uw_854 uw_855 uw_36 uw_856) rfl rfl rfl (by decide +kernel) ⟨(Nat.le_of_ble_eq_true rfl), (Nat.le_of_ble_eq_true rfl)⟩) (va_recv hK (ww_P.mp hP).2 (ci := 9) (q0 := 0) rfl rfl) rfl hl.1 rfl (Nat.le_of_ble_eq_true rfl) de_Y_1205 ⟨hc, hsl⟩ hK hN hP hD hS (fun q h => h) (fun r2 _ H locs hw2 hP hD hS => ?_)
  have hP : va_P (dC, dI) CLS (wA ad T (s_bending (lg xs (i + 1)) t) o (o_bending (lg xs (i + 1)) t ob) ++ wM am T (m_bending (lg xs (i + 1)) u)) H := hP
  have hD : va_D (AA s) (wA ad T (s_bending (lg xs (i + 1)) t) o (o_bending (lg xs (i + 1)) t ob) ++ wM am T (m_bending (lg xs (i + 1)) u)) := hD
  have hw2 : r2 = w_bending (lg xs (i + 1)) u := hw2
  refine lv_lstore (lv' := [(6, .long r2), (5, .int r), (4, .int (nI i)), (3, .ref o), (2, .ref (am 0)), (1, .ref (ad 0)), (0, .ref b)]) hx hb de_Y_1208 hl (by decide) rfl (fun ls hl => ?_)
  refine lv_aload_n hx hb de_Y_1210 rfl (lv_at hl 4 rfl) ?_
  refine cb_Vi (As := []) (rest := []) (w := wM am T (m_bending (lg xs (i + 1)) u)) (v := wA ad T (s_bending (lg xs (i + 1)) t) o (o_bending (lg xs (i + 1)) t ob)) ⟨hx, hb, hml, hown, hts⟩ (mt_M_thrown l dC dI am T (m_bending (lg xs (i + 1)) u)) (cwV 0 hts (uw_V uw_796 uw_797 uw_798 uw_36 uw_799) rfl rfl rfl (by decide +kernel) ⟨(Nat.le_of_ble_eq_true rfl), (Nat.le_of_ble_eq_true rfl)⟩) (va_recv hK (ww_P.mp hP).2 (ci := 9) (q0 := 0) rfl rfl) rfl hl.1 rfl (Nat.le_of_ble_eq_true rfl) de_Y_1211 ⟨hc, hsl⟩ hK hN hP hD hS (fun q h => h) (fun r3 _ H locs hw3 hP hD hS => ?_)
  have hw3 : r3 = nI ((m_bending (lg xs (i + 1)) u).2.2.2 0) := hw3
  refine lv_iload hx hb de_Y_1214 (lv_at hl 1 rfl) ?_
  refine lv_icmp_eq (tgt := 1221) hx hb de_Y_1216 (by decide) (fun c1 => ?_) (fun c1 => absurd (by rw [hw3, hw]; exact E1) c1)
  refine lv_iload hx hb de_Y_1221 (lv_at hl 1 rfl) ?_
  have hend : ∀ (H : Heap) (locs : List Loc) (ls : Array Slot), va_P (dC, dI) CLS (wA ad T (s_bending (lg xs (i + 1)) t) o (o_bending (lg xs (i + 1)) t ob) ++ wM am T (m_bending (lg xs (i + 1)) u)) H → va_D (AA s) (wA ad T (s_bending (lg xs (i + 1)) t) o (o_bending (lg xs (i + 1)) t ob) ++ wM am T (m_bending (lg xs (i + 1)) u)) → va_S (AA s) s.heap H locs → lv_has ls 8 [(6, .long r2), (5, .int r), (4, .int (nI i)), (3, .ref o), (2, .ref (am 0)), (1, .ref (ad 0)), (0, .ref b)] → W p l e room_1 s m #[Value.ref b] below meth c H locs (cells + 1) (slots + 6) Q (F0 m 1237 ls []) := by
    intro H locs ls hP hD hS hl
    refine lv_goto (tgt := 1736) hx hb de_Y_1237 (by decide) ?_
    exact kk _ _ _ H locs ls hR hP hD hS (lv_sub hl [2, 3, 4, 5, 6] rfl)
  refine lv_if_ne (tgt := 1237) hx hb de_Y_1223 (by decide) (fun c2 => ?_) (fun c2 => ?_)
  · exact hend H locs ls hP hD hS hl
  · skip
    have E3 : (o_bending (lg xs (i + 1)) t ob) 0 = r2 := by
      rw [o_bending, if_pos (hw.symm.trans c2), hw2]
      exact (if_pos rfl).trans (E2 (hw.symm.trans c2))
    refine lv_aload_n hx hb de_Y_1226 rfl (lv_at hl 3 rfl) ?_
    refine lv_iconst (v := 0) hx hb de_Y_1227 (by decide) ?_
    refine rw_lald (f := o_bending (lg xs (i + 1)) t ob) (j := 0) hx hb hK hP 33 0 rfl rfl (by decide) (by decide) de_Y_1228 ?_
    refine lv_lload hx hb de_Y_1229 (lv_at hl 0 rfl) ?_
    exact rw_eq (tgt := 1237) hx hb de_Y_1231 de_Y_1232 (by decide) (fun c3 => hend H locs ls hP hD hS hl) (fun c3 => absurd E3 c3)
set_option maxHeartbeats 4000000 in
set_option maxRecDepth 100000 in
theorem lc_limit {p : Program} {l : Launch} {e : Env} {s : State} {m : MethodId} {below : List Frame} {meth : Method} {c : Code} {b L : Nat} {xs : Nat → Int32} {dC : Nat → ClassId} {dI : Nat → Nat → Nat} {T : Nat → ClassId} {RR : St → St → Prop} (hB : PT_base RR) (hpt : PT_limit RR) (C : LAW p l s m c b L xs dC dI T) {ad am : Nat → Nat} {o i cells slots : Nat} {t u : St} {ob : Nat → Int64} {H : Heap} {locs : List Loc} {ls : Array Slot} {Q : State → Prop} (hi : i + 11 ≤ L) (hR : RR t u) (hc : cells + 1 ≤ 1100) (hsl : slots + 6 ≤ 9103) (hP : va_P (dC, dI) CLS (wA ad T t o ob ++ wM am T u) H) (hD : va_D (AA s) (wA ad T t o ob ++ wM am T u)) (hS : va_S (AA s) s.heap H locs) (hl : lv_has ls 8 (LV b ad am o i)) (kk : ∀ (t' u' : St) (ob' : Nat → Int64) (H : Heap) (locs : List Loc) (ls : Array Slot), RR t' u' → va_P (dC, dI) CLS (wA ad T t' o ob' ++ wM am T u') H → va_D (AA s) (wA ad T t' o ob' ++ wM am T u') → va_S (AA s) s.heap H locs → lv_has ls 8 (LV b ad am o i) → W p l e room_1 s m #[Value.ref b] below meth c H locs (cells + 1) (slots + 6) Q (F0 m 1736 ls [])) : W p l e room_1 s m #[Value.ref b] below meth c H locs cells slots Q (F0 m 1240 ls []) := by
  obtain ⟨hx, hb, hml, hown, hts, hX, hbl, hL, hK, hN, hXQ, hlt⟩ := C
  obtain ⟨hI, hIM, hE, hEM, hz1, hz2, hz3, hz4⟩ := hB t u hR
  refine lv_aload_n hx hb de_Y_1240 rfl (lv_at hl 3 rfl) ?_
  refine ld_i (j := 1) (n1 := 1) hx hb hX hbl hL hS hl 4 0 rfl rfl (by omega) de_Y_1241 de_Y_1242 (fun _ k => lv_iconst (v := nI 1) hx hb de_Y_1244 (by decide) k) de_Y_1245 de_Y_1246 ?_
  refine ld_l (j := 2) (n1 := 1) (n2 := 1) hx hb hown (hts _ uw_941) hX hbl hL hS hl 4 0 rfl rfl (by omega) de_Y_1247 de_Y_1248 (fun _ k => lv_iconst (v := nI 2) hx hb de_Y_1250 (by decide) k) de_Y_1251 de_Y_1252 de_Y_1253 de_Y_1254 de_Y_1256 de_Y_1257 de_Y_1258 (fun _ k => lv_iconst (v := nI 3) hx hb de_Y_1260 (by decide) k) de_Y_1261 de_Y_1262 de_Y_1263 de_Y_1264 de_Y_1267 de_Y_1268 ?_
  refine ld_l (j := 4) (n1 := 1) (n2 := 1) hx hb hown (hts _ uw_941) hX hbl hL hS hl 4 0 rfl rfl (by omega) de_Y_1269 de_Y_1270 (fun _ k => lv_iconst (v := nI 4) hx hb de_Y_1272 (by decide) k) de_Y_1273 de_Y_1274 de_Y_1275 de_Y_1276 de_Y_1278 de_Y_1279 de_Y_1280 (fun _ k => lv_iconst (v := nI 5) hx hb de_Y_1282 (by decide) k) de_Y_1283 de_Y_1284 de_Y_1285 de_Y_1286 de_Y_1289 de_Y_1290 ?_
  refine ld_l (j := 6) (n1 := 2) (n2 := 2) hx hb hown (hts _ uw_941) hX hbl hL hS hl 4 0 rfl rfl (by omega) de_Y_1291 de_Y_1292 (fun _ k => lv_bipush (v := nI 6) hx hb de_Y_1294 (by decide) k) de_Y_1296 de_Y_1297 de_Y_1298 de_Y_1299 de_Y_1301 de_Y_1302 de_Y_1303 (fun _ k => lv_bipush (v := nI 7) hx hb de_Y_1305 (by decide) k) de_Y_1307 de_Y_1308 de_Y_1309 de_Y_1310 de_Y_1313 de_Y_1314 ?_
  refine lv_aload_n hx hb de_Y_1315 rfl (lv_at hl 1 rfl) ?_
  have hE9 := hpt t u (xs (i + 1)) (lg xs (i + 2)) (lg xs (i + 4)) (lg xs (i + 6)) hR
  obtain ⟨E1, E2, hR⟩ := hE9
  refine cs_S (As := [.ref (ad 0), .int (xs (i + 1)), .long (lg xs (i + 2)), .long (lg xs (i + 4)), .long (lg xs (i + 6)), .ref o]) (rest := []) (w := wA ad T t o ob) (v := wM am T u) hx hb hml hown hts (uA_limit l hlt dC dI ad T o ob t (xs (i + 1)) (lg xs (i + 2)) (lg xs (i + 4)) (lg xs (i + 6)) hI) rfl rfl ⟨(Nat.le_of_ble_eq_true rfl), (Nat.le_of_ble_eq_true rfl)⟩ uw_646 uw_645 uw_26 uw_644 ⟨by decide, by decide, by show Option.map _ _ = some 6; decide +kernel⟩ hl.1 rfl (Nat.le_of_ble_eq_true rfl) de_Y_1316 ⟨hc, hsl⟩ hK hN hXQ hP hD hS (fun r _ H locs hw hP hD hS => ?_)
  have hw : r = k_limit (xs (i + 1)) (lg xs (i + 2)) (lg xs (i + 4)) (lg xs (i + 6)) t := hw
  refine lv_istore (lv' := [(5, .int r), (4, .int (nI i)), (3, .ref o), (2, .ref (am 0)), (1, .ref (ad 0)), (0, .ref b)]) hx hb de_Y_1319 hl (by decide) rfl (fun ls hl => ?_)
  refine lv_aload_n hx hb de_Y_1321 rfl (lv_at hl 3 rfl) ?_
  refine ld_i (j := 1) (n1 := 1) hx hb hX hbl hL hS hl 5 1 rfl rfl (by omega) de_Y_1322 de_Y_1323 (fun _ k => lv_iconst (v := nI 1) hx hb de_Y_1325 (by decide) k) de_Y_1326 de_Y_1327 ?_
  refine ld_l (j := 2) (n1 := 1) (n2 := 1) hx hb hown (hts _ uw_941) hX hbl hL hS hl 5 1 rfl rfl (by omega) de_Y_1328 de_Y_1329 (fun _ k => lv_iconst (v := nI 2) hx hb de_Y_1331 (by decide) k) de_Y_1332 de_Y_1333 de_Y_1334 de_Y_1335 de_Y_1337 de_Y_1338 de_Y_1339 (fun _ k => lv_iconst (v := nI 3) hx hb de_Y_1341 (by decide) k) de_Y_1342 de_Y_1343 de_Y_1344 de_Y_1345 de_Y_1348 de_Y_1349 ?_
  refine ld_l (j := 4) (n1 := 1) (n2 := 1) hx hb hown (hts _ uw_941) hX hbl hL hS hl 5 1 rfl rfl (by omega) de_Y_1350 de_Y_1351 (fun _ k => lv_iconst (v := nI 4) hx hb de_Y_1353 (by decide) k) de_Y_1354 de_Y_1355 de_Y_1356 de_Y_1357 de_Y_1359 de_Y_1360 de_Y_1361 (fun _ k => lv_iconst (v := nI 5) hx hb de_Y_1363 (by decide) k) de_Y_1364 de_Y_1365 de_Y_1366 de_Y_1367 de_Y_1370 de_Y_1371 ?_
  refine ld_l (j := 6) (n1 := 2) (n2 := 2) hx hb hown (hts _ uw_941) hX hbl hL hS hl 5 1 rfl rfl (by omega) de_Y_1372 de_Y_1373 (fun _ k => lv_bipush (v := nI 6) hx hb de_Y_1375 (by decide) k) de_Y_1377 de_Y_1378 de_Y_1379 de_Y_1380 de_Y_1382 de_Y_1383 de_Y_1384 (fun _ k => lv_bipush (v := nI 7) hx hb de_Y_1386 (by decide) k) de_Y_1388 de_Y_1389 de_Y_1390 de_Y_1391 de_Y_1394 de_Y_1395 ?_
  refine cb_Vi (As := [.int (xs (i + 1)), .long (lg xs (i + 2)), .long (lg xs (i + 4)), .long (lg xs (i + 6))]) (rest := []) (w := wM am T u) (v := wA ad T (s_limit (xs (i + 1)) (lg xs (i + 2)) (lg xs (i + 4)) (lg xs (i + 6)) t) o (o_limit (xs (i + 1)) (lg xs (i + 2)) (lg xs (i + 4)) (lg xs (i + 6)) t ob)) ⟨hx, hb, hml, hown, hts⟩ (mt_M_limit l dC dI am T u (xs (i + 1)) (lg xs (i + 2)) (lg xs (i + 4)) (lg xs (i + 6)) hIM) (cwV 4 hts (uw_V uw_891 uw_892 uw_893 uw_36 uw_894) rfl rfl rfl (by decide +kernel) ⟨(Nat.le_of_ble_eq_true rfl), (Nat.le_of_ble_eq_true rfl)⟩) (va_recv hK (ww_P.mp hP).2 (ci := 9) (q0 := 0) rfl rfl) rfl hl.1 rfl (Nat.le_of_ble_eq_true rfl) de_Y_1396 ⟨hc, hsl⟩ hK hN hP hD hS (fun q h => h) (fun r2 _ H locs hw2 hP hD hS => ?_)
  have hP : va_P (dC, dI) CLS (wA ad T (s_limit (xs (i + 1)) (lg xs (i + 2)) (lg xs (i + 4)) (lg xs (i + 6)) t) o (o_limit (xs (i + 1)) (lg xs (i + 2)) (lg xs (i + 4)) (lg xs (i + 6)) t ob) ++ wM am T (m_limit (xs (i + 1)) (lg xs (i + 2)) (lg xs (i + 4)) (lg xs (i + 6)) u)) H := hP
  have hD : va_D (AA s) (wA ad T (s_limit (xs (i + 1)) (lg xs (i + 2)) (lg xs (i + 4)) (lg xs (i + 6)) t) o (o_limit (xs (i + 1)) (lg xs (i + 2)) (lg xs (i + 4)) (lg xs (i + 6)) t ob) ++ wM am T (m_limit (xs (i + 1)) (lg xs (i + 2)) (lg xs (i + 4)) (lg xs (i + 6)) u)) := hD
  have hw2 : r2 = w_limit (xs (i + 1)) (lg xs (i + 2)) (lg xs (i + 4)) (lg xs (i + 6)) u := hw2
  refine lv_istore (lv' := [(6, .int r2), (5, .int r), (4, .int (nI i)), (3, .ref o), (2, .ref (am 0)), (1, .ref (ad 0)), (0, .ref b)]) hx hb de_Y_1399 hl (by decide) rfl (fun ls hl => ?_)
  refine lv_aload_n hx hb de_Y_1401 rfl (lv_at hl 4 rfl) ?_
  refine cb_Vi (As := []) (rest := []) (w := wM am T (m_limit (xs (i + 1)) (lg xs (i + 2)) (lg xs (i + 4)) (lg xs (i + 6)) u)) (v := wA ad T (s_limit (xs (i + 1)) (lg xs (i + 2)) (lg xs (i + 4)) (lg xs (i + 6)) t) o (o_limit (xs (i + 1)) (lg xs (i + 2)) (lg xs (i + 4)) (lg xs (i + 6)) t ob)) ⟨hx, hb, hml, hown, hts⟩ (mt_M_thrown l dC dI am T (m_limit (xs (i + 1)) (lg xs (i + 2)) (lg xs (i + 4)) (lg xs (i + 6)) u)) (cwV 0 hts (uw_V uw_796 uw_797 uw_798 uw_36 uw_799) rfl rfl rfl (by decide +kernel) ⟨(Nat.le_of_ble_eq_true rfl), (Nat.le_of_ble_eq_true rfl)⟩) (va_recv hK (ww_P.mp hP).2 (ci := 9) (q0 := 0) rfl rfl) rfl hl.1 rfl (Nat.le_of_ble_eq_true rfl) de_Y_1402 ⟨hc, hsl⟩ hK hN hP hD hS (fun q h => h) (fun r3 _ H locs hw3 hP hD hS => ?_)
  have hw3 : r3 = nI ((m_limit (xs (i + 1)) (lg xs (i + 2)) (lg xs (i + 4)) (lg xs (i + 6)) u).2.2.2 0) := hw3
  refine lv_iload hx hb de_Y_1405 (lv_at hl 1 rfl) ?_
  refine lv_icmp_eq (tgt := 1412) hx hb de_Y_1407 (by decide) (fun c1 => ?_) (fun c1 => absurd (by rw [hw3, hw]; exact E1) c1)
  refine lv_iload hx hb de_Y_1412 (lv_at hl 1 rfl) ?_
  have hend : ∀ (H : Heap) (locs : List Loc) (ls : Array Slot), va_P (dC, dI) CLS (wA ad T (s_limit (xs (i + 1)) (lg xs (i + 2)) (lg xs (i + 4)) (lg xs (i + 6)) t) o (o_limit (xs (i + 1)) (lg xs (i + 2)) (lg xs (i + 4)) (lg xs (i + 6)) t ob) ++ wM am T (m_limit (xs (i + 1)) (lg xs (i + 2)) (lg xs (i + 4)) (lg xs (i + 6)) u)) H → va_D (AA s) (wA ad T (s_limit (xs (i + 1)) (lg xs (i + 2)) (lg xs (i + 4)) (lg xs (i + 6)) t) o (o_limit (xs (i + 1)) (lg xs (i + 2)) (lg xs (i + 4)) (lg xs (i + 6)) t ob) ++ wM am T (m_limit (xs (i + 1)) (lg xs (i + 2)) (lg xs (i + 4)) (lg xs (i + 6)) u)) → va_S (AA s) s.heap H locs → lv_has ls 8 [(6, .int r2), (5, .int r), (4, .int (nI i)), (3, .ref o), (2, .ref (am 0)), (1, .ref (ad 0)), (0, .ref b)] → W p l e room_1 s m #[Value.ref b] below meth c H locs (cells + 1) (slots + 6) Q (F0 m 1429 ls []) := by
    intro H locs ls hP hD hS hl
    refine lv_goto (tgt := 1736) hx hb de_Y_1429 (by decide) ?_
    exact kk _ _ _ H locs ls hR hP hD hS (lv_sub hl [2, 3, 4, 5, 6] rfl)
  refine lv_if_ne (tgt := 1429) hx hb de_Y_1414 (by decide) (fun c2 => ?_) (fun c2 => ?_)
  · exact hend H locs ls hP hD hS hl
  · skip
    have E3 : (o_limit (xs (i + 1)) (lg xs (i + 2)) (lg xs (i + 4)) (lg xs (i + 6)) t ob) 0 = r2.toInt64 := by
      rw [o_limit, if_pos (hw.symm.trans c2), hw2]
      exact (if_pos rfl).trans (E2 (hw.symm.trans c2))
    refine lv_aload_n hx hb de_Y_1417 rfl (lv_at hl 3 rfl) ?_
    refine lv_iconst (v := 0) hx hb de_Y_1418 (by decide) ?_
    refine rw_lald (f := o_limit (xs (i + 1)) (lg xs (i + 2)) (lg xs (i + 4)) (lg xs (i + 6)) t ob) (j := 0) hx hb hK hP 33 0 rfl rfl (by decide) (by decide) de_Y_1419 ?_
    refine lv_iload hx hb de_Y_1420 (lv_at hl 0 rfl) ?_
    refine lv_i2l (v := r2.toInt64) hx hb de_Y_1422 rfl ?_
    exact rw_eq (tgt := 1429) hx hb de_Y_1423 de_Y_1424 (by decide) (fun c3 => hend H locs ls hP hD hS hl) (fun c3 => absurd E3 c3)
set_option maxHeartbeats 4000000 in
set_option maxRecDepth 100000 in
theorem lc_check {p : Program} {l : Launch} {e : Env} {s : State} {m : MethodId} {below : List Frame} {meth : Method} {c : Code} {b L : Nat} {xs : Nat → Int32} {dC : Nat → ClassId} {dI : Nat → Nat → Nat} {T : Nat → ClassId} {RR : St → St → Prop} (hB : PT_base RR) (hpt : PT_check RR) (C : LAW p l s m c b L xs dC dI T) {ad am : Nat → Nat} {o i cells slots : Nat} {t u : St} {ob : Nat → Int64} {H : Heap} {locs : List Loc} {ls : Array Slot} {Q : State → Prop} (hi : i + 11 ≤ L) (hR : RR t u) (hc : cells + 1 ≤ 1100) (hsl : slots + 6 ≤ 9103) (hP : va_P (dC, dI) CLS (wA ad T t o ob ++ wM am T u) H) (hD : va_D (AA s) (wA ad T t o ob ++ wM am T u)) (hS : va_S (AA s) s.heap H locs) (hl : lv_has ls 8 (LV b ad am o i)) (kk : ∀ (t' u' : St) (ob' : Nat → Int64) (H : Heap) (locs : List Loc) (ls : Array Slot), RR t' u' → va_P (dC, dI) CLS (wA ad T t' o ob' ++ wM am T u') H → va_D (AA s) (wA ad T t' o ob' ++ wM am T u') → va_S (AA s) s.heap H locs → lv_has ls 8 (LV b ad am o i) → W p l e room_1 s m #[Value.ref b] below meth c H locs (cells + 1) (slots + 6) Q (F0 m 1736 ls [])) : W p l e room_1 s m #[Value.ref b] below meth c H locs cells slots Q (F0 m 1432 ls []) := by
  obtain ⟨hx, hb, hml, hown, hts, hX, hbl, hL, hK, hN, hXQ, hlt⟩ := C
  obtain ⟨hI, hIM, hE, hEM, hz1, hz2, hz3, hz4⟩ := hB t u hR
  refine lv_aload_n hx hb de_Y_1432 rfl (lv_at hl 3 rfl) ?_
  obtain ⟨E1, hR⟩ := hpt t u  hR
  have hP : va_P (dC, dI) CLS (wS ad T t ++ ([(o, .inl (T 0, 1, .inr (.inl ob)))] ++ wM am T u)) H := by rw [← List.append_assoc]; exact hP
  have hD : va_D (AA s) (wS ad T t ++ ([(o, .inl (T 0, 1, .inr (.inl ob)))] ++ wM am T u)) := by rw [← List.append_assoc]; exact hD
  refine cf_Vi (As := []) (rest := []) (w := wS ad T t) (v := [(o, .inl (T 0, 1, .inr (.inl ob)))] ++ wM am T u) ⟨hx, hb, hml, hown, hts⟩ (mt_S_check l dC dI ad T t  hI) (cwV 0 hts (uw_V uw_298 uw_299 uw_300 uw_27 uw_301) rfl rfl rfl (by decide +kernel) ⟨(Nat.le_of_ble_eq_true rfl), (Nat.le_of_ble_eq_true rfl)⟩) (va_recv hK (ww_P.mp hP).1 (ci := 0) (q0 := 0) rfl rfl) rfl hl.1 rfl (Nat.le_of_ble_eq_true rfl) de_Y_1433 ⟨Nat.le_of_succ_le hc, by show slots ≤ 9103; omega⟩ hK hN hP hD hS (fun q h => h) (fun r _ H locs hw hP hD hS => ?_)
  have hP : va_P (dC, dI) CLS (wA ad T (x_lbt (x_gath t)) o ob ++ wM am T u) H := by rw [← List.append_assoc] at hP; exact hP
  have hD : va_D (AA s) (wA ad T (x_lbt (x_gath t)) o ob ++ wM am T u) := by rw [← List.append_assoc] at hD; exact hD
  have hw : r = nI (x_lbn (x_gath t)) := hw
  refine lv_aload_n hx hb de_Y_1436 rfl (lv_at hl 2 rfl) ?_
  refine cb_Vi (As := []) (rest := [.int r]) (w := wM am T u) (v := wA ad T (x_lbt (x_gath t)) o ob) ⟨hx, hb, hml, hown, hts⟩ (mt_M_check l dC dI am T u  hIM hz1) (cwV 0 hts (uw_V uw_896 uw_897 uw_898 uw_36 uw_899) rfl rfl rfl (by decide +kernel) ⟨(Nat.le_of_ble_eq_true rfl), (Nat.le_of_ble_eq_true rfl)⟩) (va_recv hK (ww_P.mp hP).2 (ci := 9) (q0 := 0) rfl rfl) rfl hl.1 rfl (Nat.le_of_ble_eq_true rfl) de_Y_1437 ⟨Nat.le_of_succ_le hc, by show slots ≤ 9103; omega⟩ hK hN hP hD hS (fun q h => h) (fun r2 _ H locs hw2 hP hD hS => ?_)
  have hP : va_P (dC, dI) CLS (wA ad T (x_lbt (x_gath t)) o ob ++ wM am T (m_check u)) H := hP
  have hD : va_D (AA s) (wA ad T (x_lbt (x_gath t)) o ob ++ wM am T (m_check u)) := hD
  have hw2 : r2 = w_check u := hw2
  have E : r = r2 := by rw [hw, hw2]; exact E1
  exact lv_icmp_eq (tgt := 1736) hx hb de_Y_1440 (by decide) (fun c3 => W.widen (Nat.le_succ _) (Nat.le_add_right _ _) (kk _ _ _ H locs ls hR hP hD hS hl)) (fun c3 => absurd E c3)
set_option maxHeartbeats 4000000 in
set_option maxRecDepth 100000 in
theorem lc_ballast {p : Program} {l : Launch} {e : Env} {s : State} {m : MethodId} {below : List Frame} {meth : Method} {c : Code} {b L : Nat} {xs : Nat → Int32} {dC : Nat → ClassId} {dI : Nat → Nat → Nat} {T : Nat → ClassId} {RR : St → St → Prop} (hB : PT_base RR) (hpt : PT_ballast RR) (C : LAW p l s m c b L xs dC dI T) {ad am : Nat → Nat} {o i cells slots : Nat} {t u : St} {ob : Nat → Int64} {H : Heap} {locs : List Loc} {ls : Array Slot} {Q : State → Prop} (hi : i + 11 ≤ L) (hR : RR t u) (hc : cells + 1 ≤ 1100) (hsl : slots + 6 ≤ 9103) (hP : va_P (dC, dI) CLS (wA ad T t o ob ++ wM am T u) H) (hD : va_D (AA s) (wA ad T t o ob ++ wM am T u)) (hS : va_S (AA s) s.heap H locs) (hl : lv_has ls 8 (LV b ad am o i)) (kk : ∀ (t' u' : St) (ob' : Nat → Int64) (H : Heap) (locs : List Loc) (ls : Array Slot), RR t' u' → va_P (dC, dI) CLS (wA ad T t' o ob' ++ wM am T u') H → va_D (AA s) (wA ad T t' o ob' ++ wM am T u') → va_S (AA s) s.heap H locs → lv_has ls 8 (LV b ad am o i) → W p l e room_1 s m #[Value.ref b] below meth c H locs (cells + 1) (slots + 6) Q (F0 m 1736 ls [])) : W p l e room_1 s m #[Value.ref b] below meth c H locs cells slots Q (F0 m 1445 ls []) := by
  obtain ⟨hx, hb, hml, hown, hts, hX, hbl, hL, hK, hN, hXQ, hlt⟩ := C
  obtain ⟨hI, hIM, hE, hEM, hz1, hz2, hz3, hz4⟩ := hB t u hR
  refine lv_aload_n hx hb de_Y_1445 rfl (lv_at hl 3 rfl) ?_
  obtain ⟨E1, hR⟩ := hpt t u  hR
  have hP : va_P (dC, dI) CLS (wS ad T t ++ ([(o, .inl (T 0, 1, .inr (.inl ob)))] ++ wM am T u)) H := by rw [← List.append_assoc]; exact hP
  have hD : va_D (AA s) (wS ad T t ++ ([(o, .inl (T 0, 1, .inr (.inl ob)))] ++ wM am T u)) := by rw [← List.append_assoc]; exact hD
  refine cf_Vl (As := []) (rest := []) (w := wS ad T t) (v := [(o, .inl (T 0, 1, .inr (.inl ob)))] ++ wM am T u) ⟨hx, hb, hml, hown, hts⟩ (mt_S_ballast l dC dI ad T t  hI) (cwV 0 hts (uw_V uw_394 uw_395 uw_396 uw_27 uw_397) rfl rfl rfl (by decide +kernel) ⟨(Nat.le_of_ble_eq_true rfl), (Nat.le_of_ble_eq_true rfl)⟩) (va_recv hK (ww_P.mp hP).1 (ci := 0) (q0 := 0) rfl rfl) rfl hl.1 rfl (Nat.le_of_ble_eq_true rfl) de_Y_1446 ⟨Nat.le_of_succ_le hc, by show slots ≤ 9103; omega⟩ hK hN hP hD hS (fun q h => h) (fun r _ H locs hw hP hD hS => ?_)
  have hP : va_P (dC, dI) CLS (wA ad T ((x_pump t).2) o ob ++ wM am T u) H := by rw [← List.append_assoc] at hP; exact hP
  have hD : va_D (AA s) (wA ad T ((x_pump t).2) o ob ++ wM am T u) := by rw [← List.append_assoc] at hD; exact hD
  have hw : r = (x_pump t).1 := hw
  refine lv_aload_n hx hb de_Y_1449 rfl (lv_at hl 2 rfl) ?_
  refine cb_Vl (As := []) (rest := [.long r]) (w := wM am T u) (v := wA ad T ((x_pump t).2) o ob) ⟨hx, hb, hml, hown, hts⟩ (mt_M_ballast l dC dI am T u  hIM hz2) (cwV 0 hts (uw_V uw_908 uw_909 uw_910 uw_36 uw_911) rfl rfl rfl (by decide +kernel) ⟨(Nat.le_of_ble_eq_true rfl), (Nat.le_of_ble_eq_true rfl)⟩) (va_recv hK (ww_P.mp hP).2 (ci := 9) (q0 := 0) rfl rfl) rfl hl.1 rfl (Nat.le_of_ble_eq_true rfl) de_Y_1450 ⟨Nat.le_of_succ_le hc, by show slots ≤ 9103; omega⟩ hK hN hP hD hS (fun q h => h) (fun r2 _ H locs hw2 hP hD hS => ?_)
  have hP : va_P (dC, dI) CLS (wA ad T ((x_pump t).2) o ob ++ wM am T (m_ballast u)) H := hP
  have hD : va_D (AA s) (wA ad T ((x_pump t).2) o ob ++ wM am T (m_ballast u)) := hD
  have hw2 : r2 = w_ballast u := hw2
  have E : r = r2 := by rw [hw, hw2]; exact E1
  exact rw_eq (tgt := 1736) hx hb de_Y_1453 de_Y_1454 (by decide) (fun c3 => W.widen (Nat.le_succ _) (Nat.le_add_right _ _) (kk _ _ _ H locs ls hR hP hD hS hl)) (fun c3 => absurd E c3)
set_option maxHeartbeats 4000000 in
set_option maxRecDepth 100000 in
theorem lc_fill {p : Program} {l : Launch} {e : Env} {s : State} {m : MethodId} {below : List Frame} {meth : Method} {c : Code} {b L : Nat} {xs : Nat → Int32} {dC : Nat → ClassId} {dI : Nat → Nat → Nat} {T : Nat → ClassId} {RR : St → St → Prop} (hB : PT_base RR) (hpt : PT_fill RR) (C : LAW p l s m c b L xs dC dI T) {ad am : Nat → Nat} {o i cells slots : Nat} {t u : St} {ob : Nat → Int64} {H : Heap} {locs : List Loc} {ls : Array Slot} {Q : State → Prop} (hi : i + 11 ≤ L) (hR : RR t u) (hc : cells + 1 ≤ 1100) (hsl : slots + 6 ≤ 9103) (hP : va_P (dC, dI) CLS (wA ad T t o ob ++ wM am T u) H) (hD : va_D (AA s) (wA ad T t o ob ++ wM am T u)) (hS : va_S (AA s) s.heap H locs) (hl : lv_has ls 8 (LV b ad am o i)) (kk : ∀ (t' u' : St) (ob' : Nat → Int64) (H : Heap) (locs : List Loc) (ls : Array Slot), RR t' u' → va_P (dC, dI) CLS (wA ad T t' o ob' ++ wM am T u') H → va_D (AA s) (wA ad T t' o ob' ++ wM am T u') → va_S (AA s) s.heap H locs → lv_has ls 8 (LV b ad am o i) → W p l e room_1 s m #[Value.ref b] below meth c H locs (cells + 1) (slots + 6) Q (F0 m 1736 ls [])) : W p l e room_1 s m #[Value.ref b] below meth c H locs cells slots Q (F0 m 1459 ls []) := by
  obtain ⟨hx, hb, hml, hown, hts, hX, hbl, hL, hK, hN, hXQ, hlt⟩ := C
  obtain ⟨hI, hIM, hE, hEM, hz1, hz2, hz3, hz4⟩ := hB t u hR
  refine lv_aload_n hx hb de_Y_1459 rfl (lv_at hl 3 rfl) ?_
  refine ld_i (j := 1) (n1 := 1) hx hb hX hbl hL hS hl 4 0 rfl rfl (by omega) de_Y_1460 de_Y_1461 (fun _ k => lv_iconst (v := nI 1) hx hb de_Y_1463 (by decide) k) de_Y_1464 de_Y_1465 ?_
  refine lv_aload_n hx hb de_Y_1466 rfl (lv_at hl 1 rfl) ?_
  have hE9 := hpt t u (xs (i + 1)) hR
  obtain ⟨E1, E2, hR⟩ := hE9
  refine cs_S (As := [.ref (ad 0), .int (xs (i + 1)), .ref o]) (rest := []) (w := wA ad T t o ob) (v := wM am T u) hx hb hml hown hts (uA_fill l hlt dC dI ad T o ob t (xs (i + 1)) hI) rfl rfl ⟨(Nat.le_of_ble_eq_true rfl), (Nat.le_of_ble_eq_true rfl)⟩ uw_662 uw_661 uw_26 uw_660 ⟨by decide, by decide, by show Option.map _ _ = some 3; decide +kernel⟩ hl.1 rfl (Nat.le_of_ble_eq_true rfl) de_Y_1467 ⟨hc, hsl⟩ hK hN hXQ hP hD hS (fun r _ H locs hw hP hD hS => ?_)
  have hw : r = k_fill (xs (i + 1)) t := hw
  refine lv_istore (lv' := [(5, .int r), (4, .int (nI i)), (3, .ref o), (2, .ref (am 0)), (1, .ref (ad 0)), (0, .ref b)]) hx hb de_Y_1470 hl (by decide) rfl (fun ls hl => ?_)
  refine lv_aload_n hx hb de_Y_1472 rfl (lv_at hl 3 rfl) ?_
  refine ld_i (j := 1) (n1 := 1) hx hb hX hbl hL hS hl 5 1 rfl rfl (by omega) de_Y_1473 de_Y_1474 (fun _ k => lv_iconst (v := nI 1) hx hb de_Y_1476 (by decide) k) de_Y_1477 de_Y_1478 ?_
  refine cb_Vl (As := [.int (xs (i + 1))]) (rest := []) (w := wM am T u) (v := wA ad T (s_fill (xs (i + 1)) t) o (o_fill (xs (i + 1)) t ob)) ⟨hx, hb, hml, hown, hts⟩ (mt_M_fill l dC dI am T u (xs (i + 1)) hIM hz2) (cwV 1 hts (uw_V uw_917 uw_918 uw_919 uw_36 uw_920) rfl rfl rfl (by decide +kernel) ⟨(Nat.le_of_ble_eq_true rfl), (Nat.le_of_ble_eq_true rfl)⟩) (va_recv hK (ww_P.mp hP).2 (ci := 9) (q0 := 0) rfl rfl) rfl hl.1 rfl (Nat.le_of_ble_eq_true rfl) de_Y_1479 ⟨hc, hsl⟩ hK hN hP hD hS (fun q h => h) (fun r2 _ H locs hw2 hP hD hS => ?_)
  have hP : va_P (dC, dI) CLS (wA ad T (s_fill (xs (i + 1)) t) o (o_fill (xs (i + 1)) t ob) ++ wM am T (m_fill (xs (i + 1)) u)) H := hP
  have hD : va_D (AA s) (wA ad T (s_fill (xs (i + 1)) t) o (o_fill (xs (i + 1)) t ob) ++ wM am T (m_fill (xs (i + 1)) u)) := hD
  have hw2 : r2 = w_fill (xs (i + 1)) u := hw2
  refine lv_lstore (lv' := [(6, .long r2), (5, .int r), (4, .int (nI i)), (3, .ref o), (2, .ref (am 0)), (1, .ref (ad 0)), (0, .ref b)]) hx hb de_Y_1482 hl (by decide) rfl (fun ls hl => ?_)
  refine lv_aload_n hx hb de_Y_1484 rfl (lv_at hl 4 rfl) ?_
  refine cb_Vi (As := []) (rest := []) (w := wM am T (m_fill (xs (i + 1)) u)) (v := wA ad T (s_fill (xs (i + 1)) t) o (o_fill (xs (i + 1)) t ob)) ⟨hx, hb, hml, hown, hts⟩ (mt_M_thrown l dC dI am T (m_fill (xs (i + 1)) u)) (cwV 0 hts (uw_V uw_796 uw_797 uw_798 uw_36 uw_799) rfl rfl rfl (by decide +kernel) ⟨(Nat.le_of_ble_eq_true rfl), (Nat.le_of_ble_eq_true rfl)⟩) (va_recv hK (ww_P.mp hP).2 (ci := 9) (q0 := 0) rfl rfl) rfl hl.1 rfl (Nat.le_of_ble_eq_true rfl) de_Y_1485 ⟨hc, hsl⟩ hK hN hP hD hS (fun q h => h) (fun r3 _ H locs hw3 hP hD hS => ?_)
  have hw3 : r3 = nI ((m_fill (xs (i + 1)) u).2.2.2 0) := hw3
  refine lv_iload hx hb de_Y_1488 (lv_at hl 1 rfl) ?_
  refine lv_icmp_eq (tgt := 1495) hx hb de_Y_1490 (by decide) (fun c1 => ?_) (fun c1 => absurd (by rw [hw3, hw]; exact E1) c1)
  refine lv_iload hx hb de_Y_1495 (lv_at hl 1 rfl) ?_
  have hend : ∀ (H : Heap) (locs : List Loc) (ls : Array Slot), va_P (dC, dI) CLS (wA ad T (s_fill (xs (i + 1)) t) o (o_fill (xs (i + 1)) t ob) ++ wM am T (m_fill (xs (i + 1)) u)) H → va_D (AA s) (wA ad T (s_fill (xs (i + 1)) t) o (o_fill (xs (i + 1)) t ob) ++ wM am T (m_fill (xs (i + 1)) u)) → va_S (AA s) s.heap H locs → lv_has ls 8 [(6, .long r2), (5, .int r), (4, .int (nI i)), (3, .ref o), (2, .ref (am 0)), (1, .ref (ad 0)), (0, .ref b)] → W p l e room_1 s m #[Value.ref b] below meth c H locs (cells + 1) (slots + 6) Q (F0 m 1511 ls []) := by
    intro H locs ls hP hD hS hl
    refine lv_goto (tgt := 1736) hx hb de_Y_1511 (by decide) ?_
    exact kk _ _ _ H locs ls hR hP hD hS (lv_sub hl [2, 3, 4, 5, 6] rfl)
  refine lv_if_ne (tgt := 1511) hx hb de_Y_1497 (by decide) (fun c2 => ?_) (fun c2 => ?_)
  · exact hend H locs ls hP hD hS hl
  · skip
    have E3 : (o_fill (xs (i + 1)) t ob) 0 = r2 := by
      rw [o_fill, if_pos (hw.symm.trans c2), hw2]
      exact (if_pos rfl).trans (E2 (hw.symm.trans c2))
    refine lv_aload_n hx hb de_Y_1500 rfl (lv_at hl 3 rfl) ?_
    refine lv_iconst (v := 0) hx hb de_Y_1501 (by decide) ?_
    refine rw_lald (f := o_fill (xs (i + 1)) t ob) (j := 0) hx hb hK hP 33 0 rfl rfl (by decide) (by decide) de_Y_1502 ?_
    refine lv_lload hx hb de_Y_1503 (lv_at hl 0 rfl) ?_
    exact rw_eq (tgt := 1511) hx hb de_Y_1505 de_Y_1506 (by decide) (fun c3 => hend H locs ls hP hD hS hl) (fun c3 => absurd E3 c3)
set_option maxHeartbeats 4000000 in
set_option maxRecDepth 100000 in
theorem lc_plan {p : Program} {l : Launch} {e : Env} {s : State} {m : MethodId} {below : List Frame} {meth : Method} {c : Code} {b L : Nat} {xs : Nat → Int32} {dC : Nat → ClassId} {dI : Nat → Nat → Nat} {T : Nat → ClassId} {RR : St → St → Prop} (hB : PT_base RR) (hpt : PT_plan RR) (C : LAW p l s m c b L xs dC dI T) {ad am : Nat → Nat} {o i cells slots : Nat} {t u : St} {ob : Nat → Int64} {H : Heap} {locs : List Loc} {ls : Array Slot} {Q : State → Prop} (hi : i + 11 ≤ L) (hR : RR t u) (hc : cells + 1 ≤ 1100) (hsl : slots + 6 ≤ 9103) (hP : va_P (dC, dI) CLS (wA ad T t o ob ++ wM am T u) H) (hD : va_D (AA s) (wA ad T t o ob ++ wM am T u)) (hS : va_S (AA s) s.heap H locs) (hl : lv_has ls 8 (LV b ad am o i)) (kk : ∀ (t' u' : St) (ob' : Nat → Int64) (H : Heap) (locs : List Loc) (ls : Array Slot), RR t' u' → va_P (dC, dI) CLS (wA ad T t' o ob' ++ wM am T u') H → va_D (AA s) (wA ad T t' o ob' ++ wM am T u') → va_S (AA s) s.heap H locs → lv_has ls 8 (LV b ad am o i) → W p l e room_1 s m #[Value.ref b] below meth c H locs (cells + 1) (slots + 6) Q (F0 m 1736 ls [])) : W p l e room_1 s m #[Value.ref b] below meth c H locs cells slots Q (F0 m 1514 ls []) := by
  obtain ⟨hx, hb, hml, hown, hts, hX, hbl, hL, hK, hN, hXQ, hlt⟩ := C
  obtain ⟨hI, hIM, hE, hEM, hz1, hz2, hz3, hz4⟩ := hB t u hR
  refine lv_aload_n hx hb de_Y_1514 rfl (lv_at hl 3 rfl) ?_
  refine ld_i (j := 1) (n1 := 1) hx hb hX hbl hL hS hl 4 0 rfl rfl (by omega) de_Y_1515 de_Y_1516 (fun _ k => lv_iconst (v := nI 1) hx hb de_Y_1518 (by decide) k) de_Y_1519 de_Y_1520 ?_
  refine ld_z (tgt := 1528) (tg2 := 1529) hx hb de_Y_1521 (by decide) de_Y_1524 de_Y_1525 (by decide) de_Y_1528 rfl ?_
  refine ld_i (j := 2) (n1 := 1) hx hb hX hbl hL hS hl 4 0 rfl rfl (by omega) de_Y_1529 de_Y_1530 (fun _ k => lv_iconst (v := nI 2) hx hb de_Y_1532 (by decide) k) de_Y_1533 de_Y_1534 ?_
  refine ld_l (j := 3) (n1 := 1) (n2 := 1) hx hb hown (hts _ uw_941) hX hbl hL hS hl 4 0 rfl rfl (by omega) de_Y_1535 de_Y_1536 (fun _ k => lv_iconst (v := nI 3) hx hb de_Y_1538 (by decide) k) de_Y_1539 de_Y_1540 de_Y_1541 de_Y_1542 de_Y_1544 de_Y_1545 de_Y_1546 (fun _ k => lv_iconst (v := nI 4) hx hb de_Y_1548 (by decide) k) de_Y_1549 de_Y_1550 de_Y_1551 de_Y_1552 de_Y_1555 de_Y_1556 ?_
  refine lv_aload_n hx hb de_Y_1557 rfl (lv_at hl 1 rfl) ?_
  have hE9 := hpt t u (if xs (i + 1) = 0 then 0 else 1) (xs (i + 2)) (lg xs (i + 3)) (by split; exact Or.inl rfl; exact Or.inr rfl) hR
  obtain ⟨E1, E2, hR⟩ := hE9
  refine cs_S (As := [.ref (ad 0), .int (if xs (i + 1) = 0 then 0 else 1), .int (xs (i + 2)), .long (lg xs (i + 3)), .ref o]) (rest := []) (w := wA ad T t o ob) (v := wM am T u) hx hb hml hown hts (uA_plan l hlt dC dI ad T o ob t (if xs (i + 1) = 0 then 0 else 1) (xs (i + 2)) (lg xs (i + 3)) hI) rfl rfl ⟨(Nat.le_of_ble_eq_true rfl), (Nat.le_of_ble_eq_true rfl)⟩ uw_669 uw_668 uw_26 uw_667 ⟨by decide, by decide, by show Option.map _ _ = some 5; decide +kernel⟩ hl.1 rfl (Nat.le_of_ble_eq_true rfl) de_Y_1558 ⟨hc, hsl⟩ hK hN hXQ hP hD hS (fun r _ H locs hw hP hD hS => ?_)
  have hw : r = k_plan (if xs (i + 1) = 0 then 0 else 1) (xs (i + 2)) (lg xs (i + 3)) t := hw
  refine lv_istore (lv' := [(5, .int r), (4, .int (nI i)), (3, .ref o), (2, .ref (am 0)), (1, .ref (ad 0)), (0, .ref b)]) hx hb de_Y_1561 hl (by decide) rfl (fun ls hl => ?_)
  refine lv_aload_n hx hb de_Y_1563 rfl (lv_at hl 3 rfl) ?_
  refine ld_i (j := 1) (n1 := 1) hx hb hX hbl hL hS hl 5 1 rfl rfl (by omega) de_Y_1564 de_Y_1565 (fun _ k => lv_iconst (v := nI 1) hx hb de_Y_1567 (by decide) k) de_Y_1568 de_Y_1569 ?_
  refine ld_z (tgt := 1577) (tg2 := 1578) hx hb de_Y_1570 (by decide) de_Y_1573 de_Y_1574 (by decide) de_Y_1577 rfl ?_
  refine ld_i (j := 2) (n1 := 1) hx hb hX hbl hL hS hl 5 1 rfl rfl (by omega) de_Y_1578 de_Y_1579 (fun _ k => lv_iconst (v := nI 2) hx hb de_Y_1581 (by decide) k) de_Y_1582 de_Y_1583 ?_
  refine ld_l (j := 3) (n1 := 1) (n2 := 1) hx hb hown (hts _ uw_941) hX hbl hL hS hl 5 1 rfl rfl (by omega) de_Y_1584 de_Y_1585 (fun _ k => lv_iconst (v := nI 3) hx hb de_Y_1587 (by decide) k) de_Y_1588 de_Y_1589 de_Y_1590 de_Y_1591 de_Y_1593 de_Y_1594 de_Y_1595 (fun _ k => lv_iconst (v := nI 4) hx hb de_Y_1597 (by decide) k) de_Y_1598 de_Y_1599 de_Y_1600 de_Y_1601 de_Y_1604 de_Y_1605 ?_
  refine cb_Vi (As := [.int (if xs (i + 1) = 0 then 0 else 1), .int (xs (i + 2)), .long (lg xs (i + 3))]) (rest := []) (w := wM am T u) (v := wA ad T (s_plan (if xs (i + 1) = 0 then 0 else 1) (xs (i + 2)) (lg xs (i + 3)) t) o (o_plan (if xs (i + 1) = 0 then 0 else 1) (xs (i + 2)) (lg xs (i + 3)) t ob)) ⟨hx, hb, hml, hown, hts⟩ (mt_M_plan l dC dI am T u (if xs (i + 1) = 0 then 0 else 1) (xs (i + 2)) (lg xs (i + 3)) hIM) (cwV 3 hts (uw_V uw_921 uw_922 uw_923 uw_36 uw_924) rfl rfl rfl (by decide +kernel) ⟨(Nat.le_of_ble_eq_true rfl), (Nat.le_of_ble_eq_true rfl)⟩) (va_recv hK (ww_P.mp hP).2 (ci := 9) (q0 := 0) rfl rfl) rfl hl.1 rfl (Nat.le_of_ble_eq_true rfl) de_Y_1606 ⟨hc, hsl⟩ hK hN hP hD hS (fun q h => h) (fun r2 _ H locs hw2 hP hD hS => ?_)
  have hP : va_P (dC, dI) CLS (wA ad T (s_plan (if xs (i + 1) = 0 then 0 else 1) (xs (i + 2)) (lg xs (i + 3)) t) o (o_plan (if xs (i + 1) = 0 then 0 else 1) (xs (i + 2)) (lg xs (i + 3)) t ob) ++ wM am T (m_plan (if xs (i + 1) = 0 then 0 else 1) (xs (i + 2)) (lg xs (i + 3)) u)) H := hP
  have hD : va_D (AA s) (wA ad T (s_plan (if xs (i + 1) = 0 then 0 else 1) (xs (i + 2)) (lg xs (i + 3)) t) o (o_plan (if xs (i + 1) = 0 then 0 else 1) (xs (i + 2)) (lg xs (i + 3)) t ob) ++ wM am T (m_plan (if xs (i + 1) = 0 then 0 else 1) (xs (i + 2)) (lg xs (i + 3)) u)) := hD
  have hw2 : r2 = w_plan (if xs (i + 1) = 0 then 0 else 1) (xs (i + 2)) (lg xs (i + 3)) u := hw2
  refine lv_istore (lv' := [(6, .int r2), (5, .int r), (4, .int (nI i)), (3, .ref o), (2, .ref (am 0)), (1, .ref (ad 0)), (0, .ref b)]) hx hb de_Y_1609 hl (by decide) rfl (fun ls hl => ?_)
  refine lv_aload_n hx hb de_Y_1611 rfl (lv_at hl 4 rfl) ?_
  refine cb_Vi (As := []) (rest := []) (w := wM am T (m_plan (if xs (i + 1) = 0 then 0 else 1) (xs (i + 2)) (lg xs (i + 3)) u)) (v := wA ad T (s_plan (if xs (i + 1) = 0 then 0 else 1) (xs (i + 2)) (lg xs (i + 3)) t) o (o_plan (if xs (i + 1) = 0 then 0 else 1) (xs (i + 2)) (lg xs (i + 3)) t ob)) ⟨hx, hb, hml, hown, hts⟩ (mt_M_thrown l dC dI am T (m_plan (if xs (i + 1) = 0 then 0 else 1) (xs (i + 2)) (lg xs (i + 3)) u)) (cwV 0 hts (uw_V uw_796 uw_797 uw_798 uw_36 uw_799) rfl rfl rfl (by decide +kernel) ⟨(Nat.le_of_ble_eq_true rfl), (Nat.le_of_ble_eq_true rfl)⟩) (va_recv hK (ww_P.mp hP).2 (ci := 9) (q0 := 0) rfl rfl) rfl hl.1 rfl (Nat.le_of_ble_eq_true rfl) de_Y_1612 ⟨hc, hsl⟩ hK hN hP hD hS (fun q h => h) (fun r3 _ H locs hw3 hP hD hS => ?_)
  have hw3 : r3 = nI ((m_plan (if xs (i + 1) = 0 then 0 else 1) (xs (i + 2)) (lg xs (i + 3)) u).2.2.2 0) := hw3
  refine lv_iload hx hb de_Y_1615 (lv_at hl 1 rfl) ?_
  refine lv_icmp_eq (tgt := 1622) hx hb de_Y_1617 (by decide) (fun c1 => ?_) (fun c1 => absurd (by rw [hw3, hw]; exact E1) c1)
  refine lv_iload hx hb de_Y_1622 (lv_at hl 1 rfl) ?_
  have hend : ∀ (H : Heap) (locs : List Loc) (ls : Array Slot), va_P (dC, dI) CLS (wA ad T (s_plan (if xs (i + 1) = 0 then 0 else 1) (xs (i + 2)) (lg xs (i + 3)) t) o (o_plan (if xs (i + 1) = 0 then 0 else 1) (xs (i + 2)) (lg xs (i + 3)) t ob) ++ wM am T (m_plan (if xs (i + 1) = 0 then 0 else 1) (xs (i + 2)) (lg xs (i + 3)) u)) H → va_D (AA s) (wA ad T (s_plan (if xs (i + 1) = 0 then 0 else 1) (xs (i + 2)) (lg xs (i + 3)) t) o (o_plan (if xs (i + 1) = 0 then 0 else 1) (xs (i + 2)) (lg xs (i + 3)) t ob) ++ wM am T (m_plan (if xs (i + 1) = 0 then 0 else 1) (xs (i + 2)) (lg xs (i + 3)) u)) → va_S (AA s) s.heap H locs → lv_has ls 8 [(6, .int r2), (5, .int r), (4, .int (nI i)), (3, .ref o), (2, .ref (am 0)), (1, .ref (ad 0)), (0, .ref b)] → W p l e room_1 s m #[Value.ref b] below meth c H locs (cells + 1) (slots + 6) Q (F0 m 1639 ls []) := by
    intro H locs ls hP hD hS hl
    refine lv_goto (tgt := 1736) hx hb de_Y_1639 (by decide) ?_
    exact kk _ _ _ H locs ls hR hP hD hS (lv_sub hl [2, 3, 4, 5, 6] rfl)
  refine lv_if_ne (tgt := 1639) hx hb de_Y_1624 (by decide) (fun c2 => ?_) (fun c2 => ?_)
  · exact hend H locs ls hP hD hS hl
  · skip
    have E3 : (o_plan (if xs (i + 1) = 0 then 0 else 1) (xs (i + 2)) (lg xs (i + 3)) t ob) 0 = r2.toInt64 := by
      rw [o_plan, if_pos (hw.symm.trans c2), hw2]
      exact (if_pos rfl).trans (E2 (hw.symm.trans c2))
    refine lv_aload_n hx hb de_Y_1627 rfl (lv_at hl 3 rfl) ?_
    refine lv_iconst (v := 0) hx hb de_Y_1628 (by decide) ?_
    refine rw_lald (f := o_plan (if xs (i + 1) = 0 then 0 else 1) (xs (i + 2)) (lg xs (i + 3)) t ob) (j := 0) hx hb hK hP 33 0 rfl rfl (by decide) (by decide) de_Y_1629 ?_
    refine lv_iload hx hb de_Y_1630 (lv_at hl 0 rfl) ?_
    refine lv_i2l (v := r2.toInt64) hx hb de_Y_1632 rfl ?_
    exact rw_eq (tgt := 1639) hx hb de_Y_1633 de_Y_1634 (by decide) (fun c3 => hend H locs ls hP hD hS hl) (fun c3 => absurd E3 c3)
set_option maxHeartbeats 4000000 in
set_option maxRecDepth 100000 in
theorem lc_step {p : Program} {l : Launch} {e : Env} {s : State} {m : MethodId} {below : List Frame} {meth : Method} {c : Code} {b L : Nat} {xs : Nat → Int32} {dC : Nat → ClassId} {dI : Nat → Nat → Nat} {T : Nat → ClassId} {RR : St → St → Prop} (hB : PT_base RR) (hpt : PT_step RR) (C : LAW p l s m c b L xs dC dI T) {ad am : Nat → Nat} {o i cells slots : Nat} {t u : St} {ob : Nat → Int64} {H : Heap} {locs : List Loc} {ls : Array Slot} {Q : State → Prop} (hi : i + 11 ≤ L) (hR : RR t u) (hc : cells + 1 ≤ 1100) (hsl : slots + 6 ≤ 9103) (hP : va_P (dC, dI) CLS (wA ad T t o ob ++ wM am T u) H) (hD : va_D (AA s) (wA ad T t o ob ++ wM am T u)) (hS : va_S (AA s) s.heap H locs) (hl : lv_has ls 8 (LV b ad am o i)) (kk : ∀ (t' u' : St) (ob' : Nat → Int64) (H : Heap) (locs : List Loc) (ls : Array Slot), RR t' u' → va_P (dC, dI) CLS (wA ad T t' o ob' ++ wM am T u') H → va_D (AA s) (wA ad T t' o ob' ++ wM am T u') → va_S (AA s) s.heap H locs → lv_has ls 8 (LV b ad am o i) → W p l e room_1 s m #[Value.ref b] below meth c H locs (cells + 1) (slots + 6) Q (F0 m 1736 ls [])) : W p l e room_1 s m #[Value.ref b] below meth c H locs cells slots Q (F0 m 1642 ls []) := by
  obtain ⟨hx, hb, hml, hown, hts, hX, hbl, hL, hK, hN, hXQ, hlt⟩ := C
  obtain ⟨hI, hIM, hE, hEM, hz1, hz2, hz3, hz4⟩ := hB t u hR
  refine lv_aload_n hx hb de_Y_1642 rfl (lv_at hl 3 rfl) ?_
  refine ld_i (j := 1) (n1 := 1) hx hb hX hbl hL hS hl 4 0 rfl rfl (by omega) de_Y_1643 de_Y_1644 (fun _ k => lv_iconst (v := nI 1) hx hb de_Y_1646 (by decide) k) de_Y_1647 de_Y_1648 ?_
  refine lv_aload_n hx hb de_Y_1649 rfl (lv_at hl 1 rfl) ?_
  have hE9 := hpt t u (xs (i + 1)) hR
  obtain ⟨E1, E2, hR⟩ := hE9
  refine cs_S (As := [.ref (ad 0), .int (xs (i + 1)), .ref o]) (rest := []) (w := wA ad T t o ob) (v := wM am T u) hx hb hml hown hts (uA_step l hlt dC dI ad T o ob t (xs (i + 1)) hI hE) rfl rfl ⟨(Nat.le_of_ble_eq_true rfl), (Nat.le_of_ble_eq_true rfl)⟩ uw_683 uw_682 uw_26 uw_681 ⟨by decide, by decide, by show Option.map _ _ = some 3; decide +kernel⟩ hl.1 rfl (Nat.le_of_ble_eq_true rfl) de_Y_1650 ⟨hc, hsl⟩ hK hN hXQ hP hD hS (fun r _ H locs hw hP hD hS => ?_)
  have hw : r = k_step (xs (i + 1)) t := hw
  refine lv_istore (lv' := [(5, .int r), (4, .int (nI i)), (3, .ref o), (2, .ref (am 0)), (1, .ref (ad 0)), (0, .ref b)]) hx hb de_Y_1653 hl (by decide) rfl (fun ls hl => ?_)
  refine lv_aload_n hx hb de_Y_1655 rfl (lv_at hl 3 rfl) ?_
  refine ld_i (j := 1) (n1 := 1) hx hb hX hbl hL hS hl 5 1 rfl rfl (by omega) de_Y_1656 de_Y_1657 (fun _ k => lv_iconst (v := nI 1) hx hb de_Y_1659 (by decide) k) de_Y_1660 de_Y_1661 ?_
  refine cb_Vi (As := [.int (xs (i + 1))]) (rest := []) (w := wM am T u) (v := wA ad T (s_step (xs (i + 1)) t) o (o_step (xs (i + 1)) t ob)) ⟨hx, hb, hml, hown, hts⟩ (mt_M_step l dC dI am T u (xs (i + 1)) hIM hEM (fun g1 g2 => hz3 _ _ (cl_lt (n := u.2.2.2 5) g1 (Int32.not_le.mpr g2) (by have := hIM.2.2.2.2; omega)) (EqB.rf _))) (cwV 1 hts (uw_V uw_925 uw_926 uw_927 uw_36 uw_928) rfl rfl rfl (by decide +kernel) ⟨(Nat.le_of_ble_eq_true rfl), (Nat.le_of_ble_eq_true rfl)⟩) (va_recv hK (ww_P.mp hP).2 (ci := 9) (q0 := 0) rfl rfl) rfl hl.1 rfl (Nat.le_of_ble_eq_true rfl) de_Y_1662 ⟨hc, hsl⟩ hK hN hP hD hS (fun q h => h) (fun r2 _ H locs hw2 hP hD hS => ?_)
  have hP : va_P (dC, dI) CLS (wA ad T (s_step (xs (i + 1)) t) o (o_step (xs (i + 1)) t ob) ++ wM am T (m_step (xs (i + 1)) u)) H := hP
  have hD : va_D (AA s) (wA ad T (s_step (xs (i + 1)) t) o (o_step (xs (i + 1)) t ob) ++ wM am T (m_step (xs (i + 1)) u)) := hD
  have hw2 : r2 = w_step (xs (i + 1)) u := hw2
  refine lv_istore (lv' := [(6, .int r2), (5, .int r), (4, .int (nI i)), (3, .ref o), (2, .ref (am 0)), (1, .ref (ad 0)), (0, .ref b)]) hx hb de_Y_1665 hl (by decide) rfl (fun ls hl => ?_)
  refine lv_aload_n hx hb de_Y_1667 rfl (lv_at hl 4 rfl) ?_
  refine cb_Vi (As := []) (rest := []) (w := wM am T (m_step (xs (i + 1)) u)) (v := wA ad T (s_step (xs (i + 1)) t) o (o_step (xs (i + 1)) t ob)) ⟨hx, hb, hml, hown, hts⟩ (mt_M_thrown l dC dI am T (m_step (xs (i + 1)) u)) (cwV 0 hts (uw_V uw_796 uw_797 uw_798 uw_36 uw_799) rfl rfl rfl (by decide +kernel) ⟨(Nat.le_of_ble_eq_true rfl), (Nat.le_of_ble_eq_true rfl)⟩) (va_recv hK (ww_P.mp hP).2 (ci := 9) (q0 := 0) rfl rfl) rfl hl.1 rfl (Nat.le_of_ble_eq_true rfl) de_Y_1668 ⟨hc, hsl⟩ hK hN hP hD hS (fun q h => h) (fun r3 _ H locs hw3 hP hD hS => ?_)
  have hw3 : r3 = nI ((m_step (xs (i + 1)) u).2.2.2 0) := hw3
  refine lv_iload hx hb de_Y_1671 (lv_at hl 1 rfl) ?_
  refine lv_icmp_eq (tgt := 1678) hx hb de_Y_1673 (by decide) (fun c1 => ?_) (fun c1 => absurd (by rw [hw3, hw]; exact E1) c1)
  refine lv_iload hx hb de_Y_1678 (lv_at hl 1 rfl) ?_
  have hend : ∀ (H : Heap) (locs : List Loc) (ls : Array Slot), va_P (dC, dI) CLS (wA ad T (s_step (xs (i + 1)) t) o (o_step (xs (i + 1)) t ob) ++ wM am T (m_step (xs (i + 1)) u)) H → va_D (AA s) (wA ad T (s_step (xs (i + 1)) t) o (o_step (xs (i + 1)) t ob) ++ wM am T (m_step (xs (i + 1)) u)) → va_S (AA s) s.heap H locs → lv_has ls 8 [(6, .int r2), (5, .int r), (4, .int (nI i)), (3, .ref o), (2, .ref (am 0)), (1, .ref (ad 0)), (0, .ref b)] → W p l e room_1 s m #[Value.ref b] below meth c H locs (cells + 1) (slots + 6) Q (F0 m 1695 ls []) := by
    intro H locs ls hP hD hS hl
    refine lv_goto (tgt := 1736) hx hb de_Y_1695 (by decide) ?_
    exact kk _ _ _ H locs ls hR hP hD hS (lv_sub hl [2, 3, 4, 5, 6] rfl)
  refine lv_if_ne (tgt := 1695) hx hb de_Y_1680 (by decide) (fun c2 => ?_) (fun c2 => ?_)
  · exact hend H locs ls hP hD hS hl
  · skip
    have E3 : (o_step (xs (i + 1)) t ob) 0 = r2.toInt64 := by
      rw [o_step, if_pos (hw.symm.trans c2), hw2]
      exact (if_pos rfl).trans (E2 (hw.symm.trans c2))
    refine lv_aload_n hx hb de_Y_1683 rfl (lv_at hl 3 rfl) ?_
    refine lv_iconst (v := 0) hx hb de_Y_1684 (by decide) ?_
    refine rw_lald (f := o_step (xs (i + 1)) t ob) (j := 0) hx hb hK hP 33 0 rfl rfl (by decide) (by decide) de_Y_1685 ?_
    refine lv_iload hx hb de_Y_1686 (lv_at hl 0 rfl) ?_
    refine lv_i2l (v := r2.toInt64) hx hb de_Y_1688 rfl ?_
    exact rw_eq (tgt := 1695) hx hb de_Y_1689 de_Y_1690 (by decide) (fun c3 => hend H locs ls hP hD hS hl) (fun c3 => absurd E3 c3)
set_option maxHeartbeats 4000000 in
set_option maxRecDepth 100000 in
theorem lc_broken {p : Program} {l : Launch} {e : Env} {s : State} {m : MethodId} {below : List Frame} {meth : Method} {c : Code} {b L : Nat} {xs : Nat → Int32} {dC : Nat → ClassId} {dI : Nat → Nat → Nat} {T : Nat → ClassId} {RR : St → St → Prop} (hB : PT_base RR) (hpt : PT_broken RR) (C : LAW p l s m c b L xs dC dI T) {ad am : Nat → Nat} {o i cells slots : Nat} {t u : St} {ob : Nat → Int64} {H : Heap} {locs : List Loc} {ls : Array Slot} {Q : State → Prop} (hi : i + 11 ≤ L) (hR : RR t u) (hc : cells + 1 ≤ 1100) (hsl : slots + 6 ≤ 9103) (hP : va_P (dC, dI) CLS (wA ad T t o ob ++ wM am T u) H) (hD : va_D (AA s) (wA ad T t o ob ++ wM am T u)) (hS : va_S (AA s) s.heap H locs) (hl : lv_has ls 8 (LV b ad am o i)) (kk : ∀ (t' u' : St) (ob' : Nat → Int64) (H : Heap) (locs : List Loc) (ls : Array Slot), RR t' u' → va_P (dC, dI) CLS (wA ad T t' o ob' ++ wM am T u') H → va_D (AA s) (wA ad T t' o ob' ++ wM am T u') → va_S (AA s) s.heap H locs → lv_has ls 8 (LV b ad am o i) → W p l e room_1 s m #[Value.ref b] below meth c H locs (cells + 1) (slots + 6) Q (F0 m 1736 ls [])) : W p l e room_1 s m #[Value.ref b] below meth c H locs cells slots Q (F0 m 1698 ls []) := by
  obtain ⟨hx, hb, hml, hown, hts, hX, hbl, hL, hK, hN, hXQ, hlt⟩ := C
  obtain ⟨hI, hIM, hE, hEM, hz1, hz2, hz3, hz4⟩ := hB t u hR
  refine lv_aload_n hx hb de_Y_1698 rfl (lv_at hl 3 rfl) ?_
  obtain ⟨E1, hR⟩ := hpt t u  hR
  have hP : va_P (dC, dI) CLS (wS ad T t ++ ([(o, .inl (T 0, 1, .inr (.inl ob)))] ++ wM am T u)) H := by rw [← List.append_assoc]; exact hP
  have hD : va_D (AA s) (wS ad T t ++ ([(o, .inl (T 0, 1, .inr (.inl ob)))] ++ wM am T u)) := by rw [← List.append_assoc]; exact hD
  refine cf_Vi (As := []) (rest := []) (w := wS ad T t) (v := [(o, .inl (T 0, 1, .inr (.inl ob)))] ++ wM am T u) ⟨hx, hb, hml, hown, hts⟩ (mt_S_broken l dC dI ad T t  hI hE) (cwV 0 hts (uw_V uw_419 uw_420 uw_421 uw_27 uw_422) rfl rfl rfl (by decide +kernel) ⟨(Nat.le_of_ble_eq_true rfl), (Nat.le_of_ble_eq_true rfl)⟩) (va_recv hK (ww_P.mp hP).1 (ci := 0) (q0 := 0) rfl rfl) rfl hl.1 rfl (Nat.le_of_ble_eq_true rfl) de_Y_1699 ⟨Nat.le_of_succ_le hc, by show slots ≤ 9103; omega⟩ hK hN hP hD hS (fun q h => h) (fun r _ H locs hw hP hD hS => ?_)
  have hP : va_P (dC, dI) CLS (wA ad T ((x_broken t).2) o ob ++ wM am T u) H := by rw [← List.append_assoc] at hP; exact hP
  have hD : va_D (AA s) (wA ad T ((x_broken t).2) o ob ++ wM am T u) := by rw [← List.append_assoc] at hD; exact hD
  have hw : r = (x_broken t).1 := hw
  refine lv_aload_n hx hb de_Y_1702 rfl (lv_at hl 2 rfl) ?_
  refine cb_Vi (As := []) (rest := [.int r]) (w := wM am T u) (v := wA ad T ((x_broken t).2) o ob) ⟨hx, hb, hml, hown, hts⟩ (mt_M_broken l dC dI am T u  hIM hEM hz3) (cwV 0 hts (uw_V uw_933 uw_934 uw_935 uw_36 uw_936) rfl rfl rfl (by decide +kernel) ⟨(Nat.le_of_ble_eq_true rfl), (Nat.le_of_ble_eq_true rfl)⟩) (va_recv hK (ww_P.mp hP).2 (ci := 9) (q0 := 0) rfl rfl) rfl hl.1 rfl (Nat.le_of_ble_eq_true rfl) de_Y_1703 ⟨Nat.le_of_succ_le hc, by show slots ≤ 9103; omega⟩ hK hN hP hD hS (fun q h => h) (fun r2 _ H locs hw2 hP hD hS => ?_)
  have hP : va_P (dC, dI) CLS (wA ad T ((x_broken t).2) o ob ++ wM am T (m_broken u)) H := hP
  have hD : va_D (AA s) (wA ad T ((x_broken t).2) o ob ++ wM am T (m_broken u)) := hD
  have hw2 : r2 = w_broken u := hw2
  have E : r = r2 := by rw [hw, hw2]; exact E1
  exact lv_icmp_eq (tgt := 1736) hx hb de_Y_1706 (by decide) (fun c3 => W.widen (Nat.le_succ _) (Nat.le_add_right _ _) (kk _ _ _ H locs ls hR hP hD hS hl)) (fun c3 => absurd E c3)
set_option maxHeartbeats 4000000 in
set_option maxRecDepth 100000 in
theorem lc_count {p : Program} {l : Launch} {e : Env} {s : State} {m : MethodId} {below : List Frame} {meth : Method} {c : Code} {b L : Nat} {xs : Nat → Int32} {dC : Nat → ClassId} {dI : Nat → Nat → Nat} {T : Nat → ClassId} {RR : St → St → Prop} (hB : PT_base RR) (hpt : PT_count RR) (C : LAW p l s m c b L xs dC dI T) {ad am : Nat → Nat} {o i cells slots : Nat} {t u : St} {ob : Nat → Int64} {H : Heap} {locs : List Loc} {ls : Array Slot} {Q : State → Prop} (hi : i + 11 ≤ L) (hR : RR t u) (hc : cells + 1 ≤ 1100) (hsl : slots + 6 ≤ 9103) (hP : va_P (dC, dI) CLS (wA ad T t o ob ++ wM am T u) H) (hD : va_D (AA s) (wA ad T t o ob ++ wM am T u)) (hS : va_S (AA s) s.heap H locs) (hl : lv_has ls 8 (LV b ad am o i)) (kk : ∀ (t' u' : St) (ob' : Nat → Int64) (H : Heap) (locs : List Loc) (ls : Array Slot), RR t' u' → va_P (dC, dI) CLS (wA ad T t' o ob' ++ wM am T u') H → va_D (AA s) (wA ad T t' o ob' ++ wM am T u') → va_S (AA s) s.heap H locs → lv_has ls 8 (LV b ad am o i) → W p l e room_1 s m #[Value.ref b] below meth c H locs (cells + 1) (slots + 6) Q (F0 m 1736 ls [])) : W p l e room_1 s m #[Value.ref b] below meth c H locs cells slots Q (F0 m 1711 ls []) := by
  obtain ⟨hx, hb, hml, hown, hts, hX, hbl, hL, hK, hN, hXQ, hlt⟩ := C
  obtain ⟨hI, hIM, hE, hEM, hz1, hz2, hz3, hz4⟩ := hB t u hR
  refine lv_aload_n hx hb de_Y_1711 rfl (lv_at hl 3 rfl) ?_
  refine ld_i (j := 1) (n1 := 1) hx hb hX hbl hL hS hl 4 0 rfl rfl (by omega) de_Y_1712 de_Y_1713 (fun _ k => lv_iconst (v := nI 1) hx hb de_Y_1715 (by decide) k) de_Y_1716 de_Y_1717 ?_
  obtain ⟨E1, hR⟩ := hpt t u (xs (i + 1)) hR
  have hP : va_P (dC, dI) CLS (wS ad T t ++ ([(o, .inl (T 0, 1, .inr (.inl ob)))] ++ wM am T u)) H := by rw [← List.append_assoc]; exact hP
  have hD : va_D (AA s) (wS ad T t ++ ([(o, .inl (T 0, 1, .inr (.inl ob)))] ++ wM am T u)) := by rw [← List.append_assoc]; exact hD
  refine cf_Vi (As := [.int (xs (i + 1))]) (rest := []) (w := wS ad T t) (v := [(o, .inl (T 0, 1, .inr (.inl ob)))] ++ wM am T u) ⟨hx, hb, hml, hown, hts⟩ (mt_S_count l dC dI ad T t (xs (i + 1)) hI) (cwV 1 hts (uw_V uw_427 uw_428 uw_429 uw_27 uw_430) rfl rfl rfl (by decide +kernel) ⟨(Nat.le_of_ble_eq_true rfl), (Nat.le_of_ble_eq_true rfl)⟩) (va_recv hK (ww_P.mp hP).1 (ci := 0) (q0 := 0) rfl rfl) rfl hl.1 rfl (Nat.le_of_ble_eq_true rfl) de_Y_1718 ⟨Nat.le_of_succ_le hc, by show slots ≤ 9103; omega⟩ hK hN hP hD hS (fun q h => h) (fun r _ H locs hw hP hD hS => ?_)
  have hP : va_P (dC, dI) CLS (wA ad T (t) o ob ++ wM am T u) H := by rw [← List.append_assoc] at hP; exact hP
  have hD : va_D (AA s) (wA ad T (t) o ob ++ wM am T u) := by rw [← List.append_assoc] at hD; exact hD
  have hw : r = x_cnt (xs (i + 1)) t := hw
  refine lv_aload_n hx hb de_Y_1721 rfl (lv_at hl 2 rfl) ?_
  refine ld_i (j := 1) (n1 := 1) hx hb hX hbl hL hS hl 4 0 rfl rfl (by omega) de_Y_1722 de_Y_1723 (fun _ k => lv_iconst (v := nI 1) hx hb de_Y_1725 (by decide) k) de_Y_1726 de_Y_1727 ?_
  refine cb_Vi (As := [.int (xs (i + 1))]) (rest := [.int r]) (w := wM am T u) (v := wA ad T t o ob) ⟨hx, hb, hml, hown, hts⟩ (mt_M_count l dC dI am T u (xs (i + 1)) hIM) (cwV 1 hts (uw_V uw_937 uw_938 uw_939 uw_36 uw_940) rfl rfl rfl (by decide +kernel) ⟨(Nat.le_of_ble_eq_true rfl), (Nat.le_of_ble_eq_true rfl)⟩) (va_recv hK (ww_P.mp hP).2 (ci := 9) (q0 := 0) rfl rfl) rfl hl.1 rfl (Nat.le_of_ble_eq_true rfl) de_Y_1728 ⟨Nat.le_of_succ_le hc, by show slots ≤ 9103; omega⟩ hK hN hP hD hS (fun q h => h) (fun r2 _ H locs hw2 hP hD hS => ?_)
  have hP : va_P (dC, dI) CLS (wA ad T t o ob ++ wM am T (m_count (xs (i + 1)) u)) H := hP
  have hD : va_D (AA s) (wA ad T t o ob ++ wM am T (m_count (xs (i + 1)) u)) := hD
  have hw2 : r2 = w_count (xs (i + 1)) u := hw2
  have E : r = r2 := by rw [hw, hw2]; exact E1
  exact lv_icmp_eq (tgt := 1736) hx hb de_Y_1731 (by decide) (fun c3 => W.widen (Nat.le_succ _) (Nat.le_add_right _ _) (kk _ _ _ H locs ls hR hP hD hS hl)) (fun c3 => absurd E c3)
