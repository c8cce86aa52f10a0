abbrev wA (ad : Nat → Nat) (T : Nat → ClassId) (t : St) (o : Nat) (ob : Nat → Int64) : va_W := wS ad T t ++ [(o, .inl (T 0, 1, .inr (.inl ob)))]
set_option maxHeartbeats 4000000 in
set_option maxRecDepth 100000 in
theorem mt_A_weight (l : Launch) (hlt : l.stackTraces = false) (dC : Nat → ClassId) (dI : Nat → Nat → Nat) (ad : Nat → Nat) (T : Nat → ClassId) (o : Nat) (ob : Nat → Int64) (t : St) (a0 : Int64) (a1 : Int64) (a2 : Int64) (a3 : Int64) (hI : Iv t) (hok : okW a0 a1 a2 a3) (hc : t.2.2.2 0 < 40) (sz : Nat) : Met l yn_A_weight (.codeWith yn_A_weight cd_A_weight 11 (some .int) [(0, 15, 18, 13), (0, 15, 22, 15)] :: UW) ({ frames := 7, cells := 1, slots := 6, locals := 118 } : Room) (va_Pc [.ref (ad 0), .long a0, .long a1, .long a2, .long a3, .ref o] (Px (dC, dI) CLS (TY T) (wA ad T t o ob) sz)) (va_Qi (fun (r : Int32) (_ : Unit) => r = 0) (Bw (dC, dI) CLS (TY T) (fun _ : Unit => (wA ad T (x_wapp a0 a1 a2 a3 t) o (vp_updL ob 0 ((nI (t.2.2.2 0) : Int32).toInt64)))) (va_A (wA ad T t o ob) sz)) (va_A (wA ad T t o ob) sz)) 1 6 (va_A (wA ad T t o ob) sz) := by
  refine va_MetW (cc := cd_A_weight) (maxL := 11) (ret := some .int) (by decide) rfl ?_
  intro p e s m args below meth c s₁ B hml hv
  obtain ⟨rfl, ⟨hsz, hP, hK, hD0, hN⟩, hX⟩ := hv
  have hx := B.exec
  have hb := B.bytes
  have hr := B.returns
  have hts : ∀ w ∈ UW, w.before _ s = true := fun w h => atoms_spec (ws := .codeWith yn_A_weight cd_A_weight 11 (some .int) [(0, 15, 18, 13), (0, 15, 22, 15)] :: UW) B.pre w (List.mem_cons_of_mem _ h)
  have hown : s.vm.findClass "StabilitySumsLaw" = some m.cls := findClass_of_methodNamed B.named
  have hlocks := B.notSynchronized
  subst hsz
  have hD := hD0.self (sz := s.heap.size)
  generalize hAe : va_A (wA ad T t o ob) s.heap.size = A at hD ⊢
  have hA : ∀ q : Nat, s.heap.size ≤ q → A q := fun q h => by rw [← hAe]; exact Or.inr h
  have hS : va_S A s.heap s.heap [] := va_S.rf
  have hl := lv_entry ([.ref (ad 0), .long a0, .long a1, .long a2, .long a3, .ref o]) (n := 11) (Nat.le_of_ble_eq_true rfl)
  rw [lg_entry_eq]
  generalize (lg_sl ([.ref (ad 0), .long a0, .long a1, .long a2, .long a3, .ref o]) ++ List.replicate (11 - (lg_sl ([.ref (ad 0), .long a0, .long a1, .long a2, .long a3, .ref o])).length) Slot.unset).toArray = ls at hl ⊢
  have hl : lv_has ls 11 [(0, .ref (ad 0)), (1, .long a0), (3, .long a1), (5, .long a2), (7, .long a3), (9, .ref o)] := hl
  generalize hQ : MQ below _ _ s 1 6 A = Q
  refine W.widen (k := 1) (n := 6) (Nat.zero_le _) (Nat.zero_le _) ?_
  refine lv_aload hx hb de_A_weight_0 (lv_at hl 5 rfl) ?_
  refine lv_iconst (v := 0) hx hb de_A_weight_2 (by decide) ?_
  refine lv_aload_n hx hb de_A_weight_3 rfl (lv_at hl 0 rfl) ?_
  refine lv_lload_n hx hb de_A_weight_4 rfl (lv_at hl 1 rfl) ?_
  refine lv_lload_n hx hb de_A_weight_5 rfl (lv_at hl 2 rfl) ?_
  refine lv_lload hx hb de_A_weight_6 (lv_at hl 3 rfl) ?_
  refine lv_lload hx hb de_A_weight_8 (lv_at hl 4 rfl) ?_
  refine cf_Vi (As := [.long a0, .long a1, .long a2, .long a3]) (rest := [.int 0, .ref o]) ⟨hx, hb, hml, hown, hts⟩ (mt_S_weight l dC dI ad T t a0 a1 a2 a3 hI hok hc) (cwV 4 hts (uw_V uw_440 uw_441 uw_442 uw_27 uw_443) rfl rfl rfl (by decide +kernel) ⟨Nat.le_of_ble_eq_true rfl, Nat.le_of_ble_eq_true rfl⟩) (va_recv hK (ww_P.mp hP).1 (ci := 0) (q0 := 0) rfl rfl) rfl hl.1 rfl (Nat.le_of_ble_eq_true rfl) de_A_weight_10 ⟨Nat.le_refl _, Nat.le_refl _⟩ hK hN hP hD hS hA (fun r _ H locs hw hP hD hS => ?_)
  have hw : r = nI (t.2.2.2 0) := hw
  subst hw
  refine lv_i2l (v := (nI (t.2.2.2 0) : Int32).toInt64) hx hb de_A_weight_13 rfl ?_
  refine rw_last (f := ob) (j := 0) (x := ((nI (t.2.2.2 0) : Int32).toInt64)) hx hb hK hP hD hS 33 0 rfl rfl (by decide) (by decide) de_A_weight_14 (fun H locs hP hD hS => ?_)
  have hP : va_P (dC, dI) CLS (wA ad T (x_wapp a0 a1 a2 a3 t) o (vp_updL ob 0 ((nI (t.2.2.2 0) : Int32).toInt64))) H := hP
  have hD : va_D A (wA ad T (x_wapp a0 a1 a2 a3 t) o (vp_updL ob 0 ((nI (t.2.2.2 0) : Int32).toInt64))) := hD
  refine lv_goto (tgt := 26) hx hb de_A_weight_15 (by decide) ?_
  refine lv_iconst (v := 0) hx hb de_A_weight_26 (by decide) ?_
  subst hQ
  exact W.iret (v := 0) hx hb hr (fun t9 ht hW => ⟨⟨0, (), rfl, rfl, by rw [ht]; exact hP, va_K.moved hW.alike hK, hD⟩, hS.F ht⟩) hS.2.2 de_A_weight_27
set_option maxHeartbeats 4000000 in
set_option maxRecDepth 100000 in
theorem mt_A_weight_1 (l : Launch) (hlt : l.stackTraces = false) (dC : Nat → ClassId) (dI : Nat → Nat → Nat) (ad : Nat → Nat) (T : Nat → ClassId) (o : Nat) (ob : Nat → Int64) (t : St) (a0 : Int64) (a1 : Int64) (a2 : Int64) (a3 : Int64) (hI : Iv t) (hb9 : ¬ okW a0 a1 a2 a3) (sz : Nat) : Met l yn_A_weight (.codeWith yn_A_weight cd_A_weight 11 (some .int) [(0, 15, 18, 13), (0, 15, 22, 15)] :: UW) ({ frames := 7, cells := 1, slots := 6, locals := 118 } : Room) (va_Pc [.ref (ad 0), .long a0, .long a1, .long a2, .long a3, .ref o] (Px (dC, dI) CLS (TY T) (wA ad T t o ob) sz)) (va_Qi (fun (r : Int32) (_ : Unit) => r = 1) (Bw (dC, dI) CLS (TY T) (fun _ : Unit => (wA ad T t o ob)) (va_A (wA ad T t o ob) sz)) (va_A (wA ad T t o ob) sz)) 1 6 (va_A (wA ad T t o ob) sz) := by
  refine va_MetW (cc := cd_A_weight) (maxL := 11) (ret := some .int) (by decide) rfl ?_
  intro p e s m args below meth c s₁ B hml hv
  obtain ⟨rfl, ⟨hsz, hP, hK, hD0, hN⟩, hX⟩ := hv
  have hx := B.exec
  have hb := B.bytes
  have hr := B.returns
  have hts : ∀ w ∈ UW, w.before _ s = true := fun w h => atoms_spec (ws := .codeWith yn_A_weight cd_A_weight 11 (some .int) [(0, 15, 18, 13), (0, 15, 22, 15)] :: UW) B.pre w (List.mem_cons_of_mem _ h)
  have hown : s.vm.findClass "StabilitySumsLaw" = some m.cls := findClass_of_methodNamed B.named
  have hlocks := B.notSynchronized
  subst hsz
  have hD := hD0.self (sz := s.heap.size)
  generalize hAe : va_A (wA ad T t o ob) s.heap.size = A at hD ⊢
  have hA : ∀ q : Nat, s.heap.size ≤ q → A q := fun q h => by rw [← hAe]; exact Or.inr h
  have hS : va_S A s.heap s.heap [] := va_S.rf
  have hl := lv_entry ([.ref (ad 0), .long a0, .long a1, .long a2, .long a3, .ref o]) (n := 11) (Nat.le_of_ble_eq_true rfl)
  rw [lg_entry_eq]
  generalize (lg_sl ([.ref (ad 0), .long a0, .long a1, .long a2, .long a3, .ref o]) ++ List.replicate (11 - (lg_sl ([.ref (ad 0), .long a0, .long a1, .long a2, .long a3, .ref o])).length) Slot.unset).toArray = ls at hl ⊢
  have hl : lv_has ls 11 [(0, .ref (ad 0)), (1, .long a0), (3, .long a1), (5, .long a2), (7, .long a3), (9, .ref o)] := hl
  generalize hQ : MQ below _ _ s 1 6 A = Q
  refine lv_aload hx hb de_A_weight_0 (lv_at hl 5 rfl) ?_
  refine lv_iconst (v := 0) hx hb de_A_weight_2 (by decide) ?_
  refine lv_aload_n hx hb de_A_weight_3 rfl (lv_at hl 0 rfl) ?_
  refine lv_lload_n hx hb de_A_weight_4 rfl (lv_at hl 1 rfl) ?_
  refine lv_lload_n hx hb de_A_weight_5 rfl (lv_at hl 2 rfl) ?_
  refine lv_lload hx hb de_A_weight_6 (lv_at hl 3 rfl) ?_
  refine lv_lload hx hb de_A_weight_8 (lv_at hl 4 rfl) ?_
  obtain ⟨m9, meth9, c9, g1, g2, g3, -, -, htab, -⟩ := Cond.codeWith_spec (hts _ uw_437)
  cases B.named.symm.trans g1
  cases B.method.symm.trans g2
  cases (Stand.of_body B).code.symm.trans g3
  have hFc := cl_free (ww_D.mp hD).1 hS hA
  refine tc_V (As := [.long a0, .long a1, .long a2, .long a3]) (rest := [.int 0, .ref o]) ⟨hx, hb, hml, hown, hts⟩ (mt_S_weight_1 l hlt dC dI ad T t a0 a1 a2 a3 hI hb9) (cwV 4 hts (uw_V uw_440 uw_441 uw_442 uw_27 uw_443) rfl rfl rfl (by decide +kernel) ⟨Nat.le_of_ble_eq_true rfl, Nat.le_of_ble_eq_true rfl⟩) (va_recv hK (ww_P.mp hP).1 (ci := 0) (q0 := 0) rfl rfl) rfl hl.1 rfl (Nat.le_of_ble_eq_true rfl) de_A_weight_10 ⟨Nat.le_refl _, Nat.le_refl _⟩ hK hN hX (fun _ _ h _ => h) (ww_P.mp hP).1 ((ww_D.mp hD).1.weaken (fun _ _ _ _ => trivial)) hS hFc (fun q ce H locs z1 z2 z3 hP1 hD1 _ hk1 hS => ?_)
  obtain ⟨hP, hD⟩ := ww_f hP hD hFc hk1 hP1 hD1
  refine ct_tab (own := "StabilitySumsLaw") (E := "java/lang/IllegalArgumentException") (name := "java/lang/IllegalArgumentException") hown htab [] (0, 15, 18, 13) [(0, 15, 22, 15)] rfl (fun z hz => nomatch hz) (by decide) (by decide) (hts _ uw_438) (va_tabs rfl rfl (hX.2.1 (.castable "java/lang/IllegalArgumentException" "java/lang/IllegalArgumentException") (by decide))) z1 z2 z3 ?_
  refine lv_astore (lv' := [(10, .ref q), (0, .ref (ad 0)), (1, .long a0), (3, .long a1), (5, .long a2), (7, .long a3), (9, .ref o)]) hx hb de_A_weight_18 hl (by decide) rfl (fun ls hl => ?_)
  refine lv_iconst (v := 1) hx hb de_A_weight_20 (by decide) ?_
  subst hQ
  exact W.iret (v := 1) hx hb hr (fun t9 ht hW => ⟨⟨1, (), rfl, rfl, by rw [ht]; exact hP, va_K.moved hW.alike hK, hD⟩, hS.F ht⟩) hS.2.2 de_A_weight_21
set_option maxHeartbeats 4000000 in
set_option maxRecDepth 100000 in
theorem mt_A_weight_2 (l : Launch) (hlt : l.stackTraces = false) (dC : Nat → ClassId) (dI : Nat → Nat → Nat) (ad : Nat → Nat) (T : Nat → ClassId) (o : Nat) (ob : Nat → Int64) (t : St) (a0 : Int64) (a1 : Int64) (a2 : Int64) (a3 : Int64) (hI : Iv t) (hok : okW a0 a1 a2 a3) (hc : ¬ t.2.2.2 0 < 40) (sz : Nat) : Met l yn_A_weight (.codeWith yn_A_weight cd_A_weight 11 (some .int) [(0, 15, 18, 13), (0, 15, 22, 15)] :: UW) ({ frames := 7, cells := 1, slots := 6, locals := 118 } : Room) (va_Pc [.ref (ad 0), .long a0, .long a1, .long a2, .long a3, .ref o] (Px (dC, dI) CLS (TY T) (wA ad T t o ob) sz)) (va_Qi (fun (r : Int32) (_ : Unit) => r = 2) (Bw (dC, dI) CLS (TY T) (fun _ : Unit => (wA ad T t o ob)) (va_A (wA ad T t o ob) sz)) (va_A (wA ad T t o ob) sz)) 1 6 (va_A (wA ad T t o ob) sz) := by
  refine va_MetW (cc := cd_A_weight) (maxL := 11) (ret := some .int) (by decide) rfl ?_
  intro p e s m args below meth c s₁ B hml hv
  obtain ⟨rfl, ⟨hsz, hP, hK, hD0, hN⟩, hX⟩ := hv
  have hx := B.exec
  have hb := B.bytes
  have hr := B.returns
  have hts : ∀ w ∈ UW, w.before _ s = true := fun w h => atoms_spec (ws := .codeWith yn_A_weight cd_A_weight 11 (some .int) [(0, 15, 18, 13), (0, 15, 22, 15)] :: UW) B.pre w (List.mem_cons_of_mem _ h)
  have hown : s.vm.findClass "StabilitySumsLaw" = some m.cls := findClass_of_methodNamed B.named
  have hlocks := B.notSynchronized
  subst hsz
  have hD := hD0.self (sz := s.heap.size)
  generalize hAe : va_A (wA ad T t o ob) s.heap.size = A at hD ⊢
  have hA : ∀ q : Nat, s.heap.size ≤ q → A q := fun q h => by rw [← hAe]; exact Or.inr h
  have hS : va_S A s.heap s.heap [] := va_S.rf
  have hl := lv_entry ([.ref (ad 0), .long a0, .long a1, .long a2, .long a3, .ref o]) (n := 11) (Nat.le_of_ble_eq_true rfl)
  rw [lg_entry_eq]
  generalize (lg_sl ([.ref (ad 0), .long a0, .long a1, .long a2, .long a3, .ref o]) ++ List.replicate (11 - (lg_sl ([.ref (ad 0), .long a0, .long a1, .long a2, .long a3, .ref o])).length) Slot.unset).toArray = ls at hl ⊢
  have hl : lv_has ls 11 [(0, .ref (ad 0)), (1, .long a0), (3, .long a1), (5, .long a2), (7, .long a3), (9, .ref o)] := hl
  generalize hQ : MQ below _ _ s 1 6 A = Q
  refine lv_aload hx hb de_A_weight_0 (lv_at hl 5 rfl) ?_
  refine lv_iconst (v := 0) hx hb de_A_weight_2 (by decide) ?_
  refine lv_aload_n hx hb de_A_weight_3 rfl (lv_at hl 0 rfl) ?_
  refine lv_lload_n hx hb de_A_weight_4 rfl (lv_at hl 1 rfl) ?_
  refine lv_lload_n hx hb de_A_weight_5 rfl (lv_at hl 2 rfl) ?_
  refine lv_lload hx hb de_A_weight_6 (lv_at hl 3 rfl) ?_
  refine lv_lload hx hb de_A_weight_8 (lv_at hl 4 rfl) ?_
  obtain ⟨m9, meth9, c9, g1, g2, g3, -, -, htab, -⟩ := Cond.codeWith_spec (hts _ uw_437)
  cases B.named.symm.trans g1
  cases B.method.symm.trans g2
  cases (Stand.of_body B).code.symm.trans g3
  have hFc := cl_free (ww_D.mp hD).1 hS hA
  refine tc_V (As := [.long a0, .long a1, .long a2, .long a3]) (rest := [.int 0, .ref o]) ⟨hx, hb, hml, hown, hts⟩ (mt_S_weight_2 l hlt dC dI ad T t a0 a1 a2 a3 hI hok hc) (cwV 4 hts (uw_V uw_440 uw_441 uw_442 uw_27 uw_443) rfl rfl rfl (by decide +kernel) ⟨Nat.le_of_ble_eq_true rfl, Nat.le_of_ble_eq_true rfl⟩) (va_recv hK (ww_P.mp hP).1 (ci := 0) (q0 := 0) rfl rfl) rfl hl.1 rfl (Nat.le_of_ble_eq_true rfl) de_A_weight_10 ⟨Nat.le_refl _, Nat.le_refl _⟩ hK hN hX (fun _ _ h _ => h) (ww_P.mp hP).1 ((ww_D.mp hD).1.weaken (fun _ _ _ _ => trivial)) hS hFc (fun q ce H locs z1 z2 z3 hP1 hD1 _ hk1 hS => ?_)
  obtain ⟨hP, hD⟩ := ww_f hP hD hFc hk1 hP1 hD1
  refine ct_tab (own := "StabilitySumsLaw") (E := "java/lang/IllegalStateException") (name := "java/lang/IllegalStateException") hown htab [(0, 15, 18, 13)] (0, 15, 22, 15) [] rfl (fun z hz => by
    simp only [List.mem_cons, List.not_mem_nil, or_false] at hz
    rcases hz with rfl
    · exact ⟨by decide, "java/lang/IllegalArgumentException", hts _ uw_438, hX.2.2.2 ("java/lang/IllegalStateException", "java/lang/IllegalArgumentException") (by decide)⟩) (by decide) (by decide) (hts _ uw_439) (va_tabs rfl rfl (hX.2.1 (.castable "java/lang/IllegalStateException" "java/lang/IllegalStateException") (by decide))) z1 z2 z3 ?_
  refine lv_astore (lv' := [(10, .ref q), (0, .ref (ad 0)), (1, .long a0), (3, .long a1), (5, .long a2), (7, .long a3), (9, .ref o)]) hx hb de_A_weight_22 hl (by decide) rfl (fun ls hl => ?_)
  refine lv_iconst (v := 2) hx hb de_A_weight_24 (by decide) ?_
  subst hQ
  exact W.iret (v := 2) hx hb hr (fun t9 ht hW => ⟨⟨2, (), rfl, rfl, by rw [ht]; exact hP, va_K.moved hW.alike hK, hD⟩, hS.F ht⟩) hS.2.2 de_A_weight_25
set_option maxHeartbeats 4000000 in
set_option maxRecDepth 100000 in
theorem mt_A_tank (l : Launch) (hlt : l.stackTraces = false) (dC : Nat → ClassId) (dI : Nat → Nat → Nat) (ad : Nat → Nat) (T : Nat → ClassId) (o : Nat) (ob : Nat → Int64) (t : St) (a0 : Int64) (a1 : Int64) (a2 : Int64) (a3 : Int64) (a4 : Int64) (hI : Iv t) (hok : okT a0 a1 a2 a3 a4) (hc : t.2.2.2 1 < 4) (sz : Nat) : Met l yn_A_tank (.codeWith yn_A_tank cd_A_tank 13 (some .int) [(0, 17, 20, 13), (0, 17, 24, 15)] :: UW) ({ frames := 7, cells := 1, slots := 6, locals := 120 } : Room) (va_Pc [.ref (ad 0), .long a0, .long a1, .long a2, .long a3, .long a4, .ref o] (Px (dC, dI) CLS (TY T) (wA ad T t o ob) sz)) (va_Qi (fun (r : Int32) (_ : Unit) => r = 0) (Bw (dC, dI) CLS (TY T) (fun _ : Unit => (wA ad T (x_tapp a0 a1 a2 a3 a4 t) o (vp_updL ob 0 ((nI (t.2.2.2 1) : Int32).toInt64)))) (va_A (wA ad T t o ob) sz)) (va_A (wA ad T t o ob) sz)) 1 6 (va_A (wA ad T t o ob) sz) := by
  refine va_MetW (cc := cd_A_tank) (maxL := 13) (ret := some .int) (by decide) rfl ?_
  intro p e s m args below meth c s₁ B hml hv
  obtain ⟨rfl, ⟨hsz, hP, hK, hD0, hN⟩, hX⟩ := hv
  have hx := B.exec
  have hb := B.bytes
  have hr := B.returns
  have hts : ∀ w ∈ UW, w.before _ s = true := fun w h => atoms_spec (ws := .codeWith yn_A_tank cd_A_tank 13 (some .int) [(0, 17, 20, 13), (0, 17, 24, 15)] :: UW) B.pre w (List.mem_cons_of_mem _ h)
  have hown : s.vm.findClass "StabilitySumsLaw" = some m.cls := findClass_of_methodNamed B.named
  have hlocks := B.notSynchronized
  subst hsz
  have hD := hD0.self (sz := s.heap.size)
  generalize hAe : va_A (wA ad T t o ob) s.heap.size = A at hD ⊢
  have hA : ∀ q : Nat, s.heap.size ≤ q → A q := fun q h => by rw [← hAe]; exact Or.inr h
  have hS : va_S A s.heap s.heap [] := va_S.rf
  have hl := lv_entry ([.ref (ad 0), .long a0, .long a1, .long a2, .long a3, .long a4, .ref o]) (n := 13) (Nat.le_of_ble_eq_true rfl)
  rw [lg_entry_eq]
  generalize (lg_sl ([.ref (ad 0), .long a0, .long a1, .long a2, .long a3, .long a4, .ref o]) ++ List.replicate (13 - (lg_sl ([.ref (ad 0), .long a0, .long a1, .long a2, .long a3, .long a4, .ref o])).length) Slot.unset).toArray = ls at hl ⊢
  have hl : lv_has ls 13 [(0, .ref (ad 0)), (1, .long a0), (3, .long a1), (5, .long a2), (7, .long a3), (9, .long a4), (11, .ref o)] := hl
  generalize hQ : MQ below _ _ s 1 6 A = Q
  refine W.widen (k := 1) (n := 6) (Nat.zero_le _) (Nat.zero_le _) ?_
  refine lv_aload hx hb de_A_tank_0 (lv_at hl 6 rfl) ?_
  refine lv_iconst (v := 0) hx hb de_A_tank_2 (by decide) ?_
  refine lv_aload_n hx hb de_A_tank_3 rfl (lv_at hl 0 rfl) ?_
  refine lv_lload_n hx hb de_A_tank_4 rfl (lv_at hl 1 rfl) ?_
  refine lv_lload_n hx hb de_A_tank_5 rfl (lv_at hl 2 rfl) ?_
  refine lv_lload hx hb de_A_tank_6 (lv_at hl 3 rfl) ?_
  refine lv_lload hx hb de_A_tank_8 (lv_at hl 4 rfl) ?_
  refine lv_lload hx hb de_A_tank_10 (lv_at hl 5 rfl) ?_
  refine cf_Vi (As := [.long a0, .long a1, .long a2, .long a3, .long a4]) (rest := [.int 0, .ref o]) ⟨hx, hb, hml, hown, hts⟩ (mt_S_tank l dC dI ad T t a0 a1 a2 a3 a4 hI hok hc) (cwV 5 hts (uw_V uw_541 uw_542 uw_543 uw_27 uw_544) rfl rfl rfl (by decide +kernel) ⟨Nat.le_of_ble_eq_true rfl, Nat.le_of_ble_eq_true rfl⟩) (va_recv hK (ww_P.mp hP).1 (ci := 0) (q0 := 0) rfl rfl) rfl hl.1 rfl (Nat.le_of_ble_eq_true rfl) de_A_tank_12 ⟨Nat.le_refl _, Nat.le_refl _⟩ hK hN hP hD hS hA (fun r _ H locs hw hP hD hS => ?_)
  have hw : r = nI (t.2.2.2 1) := hw
  subst hw
  refine lv_i2l (v := (nI (t.2.2.2 1) : Int32).toInt64) hx hb de_A_tank_15 rfl ?_
  refine rw_last (f := ob) (j := 0) (x := ((nI (t.2.2.2 1) : Int32).toInt64)) hx hb hK hP hD hS 33 0 rfl rfl (by decide) (by decide) de_A_tank_16 (fun H locs hP hD hS => ?_)
  have hP : va_P (dC, dI) CLS (wA ad T (x_tapp a0 a1 a2 a3 a4 t) o (vp_updL ob 0 ((nI (t.2.2.2 1) : Int32).toInt64))) H := hP
  have hD : va_D A (wA ad T (x_tapp a0 a1 a2 a3 a4 t) o (vp_updL ob 0 ((nI (t.2.2.2 1) : Int32).toInt64))) := hD
  refine lv_goto (tgt := 28) hx hb de_A_tank_17 (by decide) ?_
  refine lv_iconst (v := 0) hx hb de_A_tank_28 (by decide) ?_
  subst hQ
  exact W.iret (v := 0) hx hb hr (fun t9 ht hW => ⟨⟨0, (), rfl, rfl, by rw [ht]; exact hP, va_K.moved hW.alike hK, hD⟩, hS.F ht⟩) hS.2.2 de_A_tank_29
set_option maxHeartbeats 4000000 in
set_option maxRecDepth 100000 in
theorem mt_A_tank_1 (l : Launch) (hlt : l.stackTraces = false) (dC : Nat → ClassId) (dI : Nat → Nat → Nat) (ad : Nat → Nat) (T : Nat → ClassId) (o : Nat) (ob : Nat → Int64) (t : St) (a0 : Int64) (a1 : Int64) (a2 : Int64) (a3 : Int64) (a4 : Int64) (hI : Iv t) (hb9 : ¬ okT a0 a1 a2 a3 a4) (sz : Nat) : Met l yn_A_tank (.codeWith yn_A_tank cd_A_tank 13 (some .int) [(0, 17, 20, 13), (0, 17, 24, 15)] :: UW) ({ frames := 7, cells := 1, slots := 6, locals := 120 } : Room) (va_Pc [.ref (ad 0), .long a0, .long a1, .long a2, .long a3, .long a4, .ref o] (Px (dC, dI) CLS (TY T) (wA ad T t o ob) sz)) (va_Qi (fun (r : Int32) (_ : Unit) => r = 1) (Bw (dC, dI) CLS (TY T) (fun _ : Unit => (wA ad T t o ob)) (va_A (wA ad T t o ob) sz)) (va_A (wA ad T t o ob) sz)) 1 6 (va_A (wA ad T t o ob) sz) := by
  refine va_MetW (cc := cd_A_tank) (maxL := 13) (ret := some .int) (by decide) rfl ?_
  intro p e s m args below meth c s₁ B hml hv
  obtain ⟨rfl, ⟨hsz, hP, hK, hD0, hN⟩, hX⟩ := hv
  have hx := B.exec
  have hb := B.bytes
  have hr := B.returns
  have hts : ∀ w ∈ UW, w.before _ s = true := fun w h => atoms_spec (ws := .codeWith yn_A_tank cd_A_tank 13 (some .int) [(0, 17, 20, 13), (0, 17, 24, 15)] :: UW) B.pre w (List.mem_cons_of_mem _ h)
  have hown : s.vm.findClass "StabilitySumsLaw" = some m.cls := findClass_of_methodNamed B.named
  have hlocks := B.notSynchronized
  subst hsz
  have hD := hD0.self (sz := s.heap.size)
  generalize hAe : va_A (wA ad T t o ob) s.heap.size = A at hD ⊢
  have hA : ∀ q : Nat, s.heap.size ≤ q → A q := fun q h => by rw [← hAe]; exact Or.inr h
  have hS : va_S A s.heap s.heap [] := va_S.rf
  have hl := lv_entry ([.ref (ad 0), .long a0, .long a1, .long a2, .long a3, .long a4, .ref o]) (n := 13) (Nat.le_of_ble_eq_true rfl)
  rw [lg_entry_eq]
  generalize (lg_sl ([.ref (ad 0), .long a0, .long a1, .long a2, .long a3, .long a4, .ref o]) ++ List.replicate (13 - (lg_sl ([.ref (ad 0), .long a0, .long a1, .long a2, .long a3, .long a4, .ref o])).length) Slot.unset).toArray = ls at hl ⊢
  have hl : lv_has ls 13 [(0, .ref (ad 0)), (1, .long a0), (3, .long a1), (5, .long a2), (7, .long a3), (9, .long a4), (11, .ref o)] := hl
  generalize hQ : MQ below _ _ s 1 6 A = Q
  refine lv_aload hx hb de_A_tank_0 (lv_at hl 6 rfl) ?_
  refine lv_iconst (v := 0) hx hb de_A_tank_2 (by decide) ?_
  refine lv_aload_n hx hb de_A_tank_3 rfl (lv_at hl 0 rfl) ?_
  refine lv_lload_n hx hb de_A_tank_4 rfl (lv_at hl 1 rfl) ?_
  refine lv_lload_n hx hb de_A_tank_5 rfl (lv_at hl 2 rfl) ?_
  refine lv_lload hx hb de_A_tank_6 (lv_at hl 3 rfl) ?_
  refine lv_lload hx hb de_A_tank_8 (lv_at hl 4 rfl) ?_
  refine lv_lload hx hb de_A_tank_10 (lv_at hl 5 rfl) ?_
  obtain ⟨m9, meth9, c9, g1, g2, g3, -, -, htab, -⟩ := Cond.codeWith_spec (hts _ uw_540)
  cases B.named.symm.trans g1
  cases B.method.symm.trans g2
  cases (Stand.of_body B).code.symm.trans g3
  have hFc := cl_free (ww_D.mp hD).1 hS hA
  refine tc_V (As := [.long a0, .long a1, .long a2, .long a3, .long a4]) (rest := [.int 0, .ref o]) ⟨hx, hb, hml, hown, hts⟩ (mt_S_tank_1 l hlt dC dI ad T t a0 a1 a2 a3 a4 hI hb9) (cwV 5 hts (uw_V uw_541 uw_542 uw_543 uw_27 uw_544) rfl rfl rfl (by decide +kernel) ⟨Nat.le_of_ble_eq_true rfl, Nat.le_of_ble_eq_true rfl⟩) (va_recv hK (ww_P.mp hP).1 (ci := 0) (q0 := 0) rfl rfl) rfl hl.1 rfl (Nat.le_of_ble_eq_true rfl) de_A_tank_12 ⟨Nat.le_refl _, Nat.le_refl _⟩ hK hN hX (fun _ _ h _ => h) (ww_P.mp hP).1 ((ww_D.mp hD).1.weaken (fun _ _ _ _ => trivial)) hS hFc (fun q ce H locs z1 z2 z3 hP1 hD1 _ hk1 hS => ?_)
  obtain ⟨hP, hD⟩ := ww_f hP hD hFc hk1 hP1 hD1
  refine ct_tab (own := "StabilitySumsLaw") (E := "java/lang/IllegalArgumentException") (name := "java/lang/IllegalArgumentException") hown htab [] (0, 17, 20, 13) [(0, 17, 24, 15)] rfl (fun z hz => nomatch hz) (by decide) (by decide) (hts _ uw_438) (va_tabs rfl rfl (hX.2.1 (.castable "java/lang/IllegalArgumentException" "java/lang/IllegalArgumentException") (by decide))) z1 z2 z3 ?_
  refine lv_astore (lv' := [(12, .ref q), (0, .ref (ad 0)), (1, .long a0), (3, .long a1), (5, .long a2), (7, .long a3), (9, .long a4), (11, .ref o)]) hx hb de_A_tank_20 hl (by decide) rfl (fun ls hl => ?_)
  refine lv_iconst (v := 1) hx hb de_A_tank_22 (by decide) ?_
  subst hQ
  exact W.iret (v := 1) hx hb hr (fun t9 ht hW => ⟨⟨1, (), rfl, rfl, by rw [ht]; exact hP, va_K.moved hW.alike hK, hD⟩, hS.F ht⟩) hS.2.2 de_A_tank_23
set_option maxHeartbeats 4000000 in
set_option maxRecDepth 100000 in
theorem mt_A_tank_2 (l : Launch) (hlt : l.stackTraces = false) (dC : Nat → ClassId) (dI : Nat → Nat → Nat) (ad : Nat → Nat) (T : Nat → ClassId) (o : Nat) (ob : Nat → Int64) (t : St) (a0 : Int64) (a1 : Int64) (a2 : Int64) (a3 : Int64) (a4 : Int64) (hI : Iv t) (hok : okT a0 a1 a2 a3 a4) (hc : ¬ t.2.2.2 1 < 4) (sz : Nat) : Met l yn_A_tank (.codeWith yn_A_tank cd_A_tank 13 (some .int) [(0, 17, 20, 13), (0, 17, 24, 15)] :: UW) ({ frames := 7, cells := 1, slots := 6, locals := 120 } : Room) (va_Pc [.ref (ad 0), .long a0, .long a1, .long a2, .long a3, .long a4, .ref o] (Px (dC, dI) CLS (TY T) (wA ad T t o ob) sz)) (va_Qi (fun (r : Int32) (_ : Unit) => r = 2) (Bw (dC, dI) CLS (TY T) (fun _ : Unit => (wA ad T t o ob)) (va_A (wA ad T t o ob) sz)) (va_A (wA ad T t o ob) sz)) 1 6 (va_A (wA ad T t o ob) sz) := by
  refine va_MetW (cc := cd_A_tank) (maxL := 13) (ret := some .int) (by decide) rfl ?_
  intro p e s m args below meth c s₁ B hml hv
  obtain ⟨rfl, ⟨hsz, hP, hK, hD0, hN⟩, hX⟩ := hv
  have hx := B.exec
  have hb := B.bytes
  have hr := B.returns
  have hts : ∀ w ∈ UW, w.before _ s = true := fun w h => atoms_spec (ws := .codeWith yn_A_tank cd_A_tank 13 (some .int) [(0, 17, 20, 13), (0, 17, 24, 15)] :: UW) B.pre w (List.mem_cons_of_mem _ h)
  have hown : s.vm.findClass "StabilitySumsLaw" = some m.cls := findClass_of_methodNamed B.named
  have hlocks := B.notSynchronized
  subst hsz
  have hD := hD0.self (sz := s.heap.size)
  generalize hAe : va_A (wA ad T t o ob) s.heap.size = A at hD ⊢
  have hA : ∀ q : Nat, s.heap.size ≤ q → A q := fun q h => by rw [← hAe]; exact Or.inr h
  have hS : va_S A s.heap s.heap [] := va_S.rf
  have hl := lv_entry ([.ref (ad 0), .long a0, .long a1, .long a2, .long a3, .long a4, .ref o]) (n := 13) (Nat.le_of_ble_eq_true rfl)
  rw [lg_entry_eq]
  generalize (lg_sl ([.ref (ad 0), .long a0, .long a1, .long a2, .long a3, .long a4, .ref o]) ++ List.replicate (13 - (lg_sl ([.ref (ad 0), .long a0, .long a1, .long a2, .long a3, .long a4, .ref o])).length) Slot.unset).toArray = ls at hl ⊢
  have hl : lv_has ls 13 [(0, .ref (ad 0)), (1, .long a0), (3, .long a1), (5, .long a2), (7, .long a3), (9, .long a4), (11, .ref o)] := hl
  generalize hQ : MQ below _ _ s 1 6 A = Q
  refine lv_aload hx hb de_A_tank_0 (lv_at hl 6 rfl) ?_
  refine lv_iconst (v := 0) hx hb de_A_tank_2 (by decide) ?_
  refine lv_aload_n hx hb de_A_tank_3 rfl (lv_at hl 0 rfl) ?_
  refine lv_lload_n hx hb de_A_tank_4 rfl (lv_at hl 1 rfl) ?_
  refine lv_lload_n hx hb de_A_tank_5 rfl (lv_at hl 2 rfl) ?_
  refine lv_lload hx hb de_A_tank_6 (lv_at hl 3 rfl) ?_
  refine lv_lload hx hb de_A_tank_8 (lv_at hl 4 rfl) ?_
  refine lv_lload hx hb de_A_tank_10 (lv_at hl 5 rfl) ?_
  obtain ⟨m9, meth9, c9, g1, g2, g3, -, -, htab, -⟩ := Cond.codeWith_spec (hts _ uw_540)
  cases B.named.symm.trans g1
  cases B.method.symm.trans g2
  cases (Stand.of_body B).code.symm.trans g3
  have hFc := cl_free (ww_D.mp hD).1 hS hA
  refine tc_V (As := [.long a0, .long a1, .long a2, .long a3, .long a4]) (rest := [.int 0, .ref o]) ⟨hx, hb, hml, hown, hts⟩ (mt_S_tank_2 l hlt dC dI ad T t a0 a1 a2 a3 a4 hI hok hc) (cwV 5 hts (uw_V uw_541 uw_542 uw_543 uw_27 uw_544) rfl rfl rfl (by decide +kernel) ⟨Nat.le_of_ble_eq_true rfl, Nat.le_of_ble_eq_true rfl⟩) (va_recv hK (ww_P.mp hP).1 (ci := 0) (q0 := 0) rfl rfl) rfl hl.1 rfl (Nat.le_of_ble_eq_true rfl) de_A_tank_12 ⟨Nat.le_refl _, Nat.le_refl _⟩ hK hN hX (fun _ _ h _ => h) (ww_P.mp hP).1 ((ww_D.mp hD).1.weaken (fun _ _ _ _ => trivial)) hS hFc (fun q ce H locs z1 z2 z3 hP1 hD1 _ hk1 hS => ?_)
  obtain ⟨hP, hD⟩ := ww_f hP hD hFc hk1 hP1 hD1
  refine ct_tab (own := "StabilitySumsLaw") (E := "java/lang/IllegalStateException") (name := "java/lang/IllegalStateException") hown htab [(0, 17, 20, 13)] (0, 17, 24, 15) [] rfl (fun z hz => by
    simp only [List.mem_cons, List.not_mem_nil, or_false] at hz
    rcases hz with rfl
    · exact ⟨by decide, "java/lang/IllegalArgumentException", hts _ uw_438, hX.2.2.2 ("java/lang/IllegalStateException", "java/lang/IllegalArgumentException") (by decide)⟩) (by decide) (by decide) (hts _ uw_439) (va_tabs rfl rfl (hX.2.1 (.castable "java/lang/IllegalStateException" "java/lang/IllegalStateException") (by decide))) z1 z2 z3 ?_
  refine lv_astore (lv' := [(12, .ref q), (0, .ref (ad 0)), (1, .long a0), (3, .long a1), (5, .long a2), (7, .long a3), (9, .long a4), (11, .ref o)]) hx hb de_A_tank_24 hl (by decide) rfl (fun ls hl => ?_)
  refine lv_iconst (v := 2) hx hb de_A_tank_26 (by decide) ?_
  subst hQ
  exact W.iret (v := 2) hx hb hr (fun t9 ht hW => ⟨⟨2, (), rfl, rfl, by rw [ht]; exact hP, va_K.moved hW.alike hK, hD⟩, hS.F ht⟩) hS.2.2 de_A_tank_27
set_option maxHeartbeats 4000000 in
set_option maxRecDepth 100000 in
theorem mt_A_filled (l : Launch) (hlt : l.stackTraces = false) (dC : Nat → ClassId) (dI : Nat → Nat → Nat) (ad : Nat → Nat) (T : Nat → ClassId) (o : Nat) (ob : Nat → Int64) (t : St) (a0 : Int32) (a1 : Int64) (hI : Iv t) (hok : x_th a0 (t.2.2.2 1)) (sz : Nat) : Met l yn_A_filled (.codeWith yn_A_filled cd_A_filled 6 (some .int) [(0, 11, 14, 25)] :: UW) ({ frames := 7, cells := 1, slots := 6, locals := 113 } : Room) (va_Pc [.ref (ad 0), .int a0, .long a1, .ref o] (Px (dC, dI) CLS (TY T) (wA ad T t o ob) sz)) (va_Qi (fun (r : Int32) (_ : Unit) => r = 0) (Bw (dC, dI) CLS (TY T) (fun _ : Unit => (wA ad T (if x_in a1 0 (t.1 4 a0.toNatClampNeg) then sL t 9 a0.toNatClampNeg a1 else t) o (vp_updL ob 0 ((if x_in a1 0 (t.1 4 a0.toNatClampNeg) then 1 else 0 : Int32).toInt64)))) (va_A (wA ad T t o ob) sz)) (va_A (wA ad T t o ob) sz)) 1 6 (va_A (wA ad T t o ob) sz) := by
  refine va_MetW (cc := cd_A_filled) (maxL := 6) (ret := some .int) (by decide) rfl ?_
  intro p e s m args below meth c s₁ B hml hv
  obtain ⟨rfl, ⟨hsz, hP, hK, hD0, hN⟩, hX⟩ := hv
  have hx := B.exec
  have hb := B.bytes
  have hr := B.returns
  have hts : ∀ w ∈ UW, w.before _ s = true := fun w h => atoms_spec (ws := .codeWith yn_A_filled cd_A_filled 6 (some .int) [(0, 11, 14, 25)] :: UW) B.pre w (List.mem_cons_of_mem _ h)
  have hown : s.vm.findClass "StabilitySumsLaw" = some m.cls := findClass_of_methodNamed B.named
  have hlocks := B.notSynchronized
  subst hsz
  have hD := hD0.self (sz := s.heap.size)
  generalize hAe : va_A (wA ad T t o ob) s.heap.size = A at hD ⊢
  have hA : ∀ q : Nat, s.heap.size ≤ q → A q := fun q h => by rw [← hAe]; exact Or.inr h
  have hS : va_S A s.heap s.heap [] := va_S.rf
  have hl := lv_entry ([.ref (ad 0), .int a0, .long a1, .ref o]) (n := 6) (Nat.le_of_ble_eq_true rfl)
  rw [lg_entry_eq]
  generalize (lg_sl ([.ref (ad 0), .int a0, .long a1, .ref o]) ++ List.replicate (6 - (lg_sl ([.ref (ad 0), .int a0, .long a1, .ref o])).length) Slot.unset).toArray = ls at hl ⊢
  have hl : lv_has ls 6 [(0, .ref (ad 0)), (1, .int a0), (2, .long a1), (4, .ref o)] := hl
  generalize hQ : MQ below _ _ s 1 6 A = Q
  refine W.widen (k := 1) (n := 6) (Nat.zero_le _) (Nat.zero_le _) ?_
  refine lv_aload hx hb de_A_filled_0 (lv_at hl 3 rfl) ?_
  refine lv_iconst (v := 0) hx hb de_A_filled_2 (by decide) ?_
  refine lv_aload_n hx hb de_A_filled_3 rfl (lv_at hl 0 rfl) ?_
  refine lv_iload_n hx hb de_A_filled_4 rfl (lv_at hl 1 rfl) ?_
  refine lv_lload_n hx hb de_A_filled_5 rfl (lv_at hl 2 rfl) ?_
  refine cf_Vi (As := [.int a0, .long a1]) (rest := [.int 0, .ref o]) ⟨hx, hb, hml, hown, hts⟩ (mt_S_filled l dC dI ad T t a0 a1 hI hok) (cwV 2 hts (uw_V uw_557 uw_558 uw_559 uw_27 uw_560) rfl rfl rfl (by decide +kernel) ⟨Nat.le_of_ble_eq_true rfl, Nat.le_of_ble_eq_true rfl⟩) (va_recv hK (ww_P.mp hP).1 (ci := 0) (q0 := 0) rfl rfl) rfl hl.1 rfl (Nat.le_of_ble_eq_true rfl) de_A_filled_6 ⟨Nat.le_refl _, Nat.le_refl _⟩ hK hN hP hD hS hA (fun r _ H locs hw hP hD hS => ?_)
  have hw : r = if x_in a1 0 (t.1 4 a0.toNatClampNeg) then 1 else 0 := hw
  subst hw
  refine lv_i2l (v := (if x_in a1 0 (t.1 4 a0.toNatClampNeg) then 1 else 0 : Int32).toInt64) hx hb de_A_filled_9 rfl ?_
  refine rw_last (f := ob) (j := 0) (x := ((if x_in a1 0 (t.1 4 a0.toNatClampNeg) then 1 else 0 : Int32).toInt64)) hx hb hK hP hD hS 33 0 rfl rfl (by decide) (by decide) de_A_filled_10 (fun H locs hP hD hS => ?_)
  have hP : va_P (dC, dI) CLS (wA ad T (if x_in a1 0 (t.1 4 a0.toNatClampNeg) then sL t 9 a0.toNatClampNeg a1 else t) o (vp_updL ob 0 ((if x_in a1 0 (t.1 4 a0.toNatClampNeg) then 1 else 0 : Int32).toInt64))) H := hP
  have hD : va_D A (wA ad T (if x_in a1 0 (t.1 4 a0.toNatClampNeg) then sL t 9 a0.toNatClampNeg a1 else t) o (vp_updL ob 0 ((if x_in a1 0 (t.1 4 a0.toNatClampNeg) then 1 else 0 : Int32).toInt64))) := hD
  refine lv_goto (tgt := 18) hx hb de_A_filled_11 (by decide) ?_
  refine lv_iconst (v := 0) hx hb de_A_filled_18 (by decide) ?_
  subst hQ
  exact W.iret (v := 0) hx hb hr (fun t9 ht hW => ⟨⟨0, (), rfl, rfl, by rw [ht]; exact hP, va_K.moved hW.alike hK, hD⟩, hS.F ht⟩) hS.2.2 de_A_filled_19
set_option maxHeartbeats 4000000 in
set_option maxRecDepth 100000 in
theorem mt_A_filled_1 (l : Launch) (hlt : l.stackTraces = false) (dC : Nat → ClassId) (dI : Nat → Nat → Nat) (ad : Nat → Nat) (T : Nat → ClassId) (o : Nat) (ob : Nat → Int64) (t : St) (a0 : Int32) (a1 : Int64) (hI : Iv t) (hb9 : ¬ x_th a0 (t.2.2.2 1)) (sz : Nat) : Met l yn_A_filled (.codeWith yn_A_filled cd_A_filled 6 (some .int) [(0, 11, 14, 25)] :: UW) ({ frames := 7, cells := 1, slots := 6, locals := 113 } : Room) (va_Pc [.ref (ad 0), .int a0, .long a1, .ref o] (Px (dC, dI) CLS (TY T) (wA ad T t o ob) sz)) (va_Qi (fun (r : Int32) (_ : Unit) => r = 1) (Bw (dC, dI) CLS (TY T) (fun _ : Unit => (wA ad T t o ob)) (va_A (wA ad T t o ob) sz)) (va_A (wA ad T t o ob) sz)) 1 6 (va_A (wA ad T t o ob) sz) := by
  refine va_MetW (cc := cd_A_filled) (maxL := 6) (ret := some .int) (by decide) rfl ?_
  intro p e s m args below meth c s₁ B hml hv
  obtain ⟨rfl, ⟨hsz, hP, hK, hD0, hN⟩, hX⟩ := hv
  have hx := B.exec
  have hb := B.bytes
  have hr := B.returns
  have hts : ∀ w ∈ UW, w.before _ s = true := fun w h => atoms_spec (ws := .codeWith yn_A_filled cd_A_filled 6 (some .int) [(0, 11, 14, 25)] :: UW) B.pre w (List.mem_cons_of_mem _ h)
  have hown : s.vm.findClass "StabilitySumsLaw" = some m.cls := findClass_of_methodNamed B.named
  have hlocks := B.notSynchronized
  subst hsz
  have hD := hD0.self (sz := s.heap.size)
  generalize hAe : va_A (wA ad T t o ob) s.heap.size = A at hD ⊢
  have hA : ∀ q : Nat, s.heap.size ≤ q → A q := fun q h => by rw [← hAe]; exact Or.inr h
  have hS : va_S A s.heap s.heap [] := va_S.rf
  have hl := lv_entry ([.ref (ad 0), .int a0, .long a1, .ref o]) (n := 6) (Nat.le_of_ble_eq_true rfl)
  rw [lg_entry_eq]
  generalize (lg_sl ([.ref (ad 0), .int a0, .long a1, .ref o]) ++ List.replicate (6 - (lg_sl ([.ref (ad 0), .int a0, .long a1, .ref o])).length) Slot.unset).toArray = ls at hl ⊢
  have hl : lv_has ls 6 [(0, .ref (ad 0)), (1, .int a0), (2, .long a1), (4, .ref o)] := hl
  generalize hQ : MQ below _ _ s 1 6 A = Q
  refine lv_aload hx hb de_A_filled_0 (lv_at hl 3 rfl) ?_
  refine lv_iconst (v := 0) hx hb de_A_filled_2 (by decide) ?_
  refine lv_aload_n hx hb de_A_filled_3 rfl (lv_at hl 0 rfl) ?_
  refine lv_iload_n hx hb de_A_filled_4 rfl (lv_at hl 1 rfl) ?_
  refine lv_lload_n hx hb de_A_filled_5 rfl (lv_at hl 2 rfl) ?_
  obtain ⟨m9, meth9, c9, g1, g2, g3, -, -, htab, -⟩ := Cond.codeWith_spec (hts _ uw_555)
  cases B.named.symm.trans g1
  cases B.method.symm.trans g2
  cases (Stand.of_body B).code.symm.trans g3
  have hFc := cl_free (ww_D.mp hD).1 hS hA
  refine tc_V (As := [.int a0, .long a1]) (rest := [.int 0, .ref o]) ⟨hx, hb, hml, hown, hts⟩ (mt_S_filled_1 l hlt dC dI ad T t a0 a1 hI hb9) (cwV 2 hts (uw_V uw_557 uw_558 uw_559 uw_27 uw_560) rfl rfl rfl (by decide +kernel) ⟨Nat.le_of_ble_eq_true rfl, Nat.le_of_ble_eq_true rfl⟩) (va_recv hK (ww_P.mp hP).1 (ci := 0) (q0 := 0) rfl rfl) rfl hl.1 rfl (Nat.le_of_ble_eq_true rfl) de_A_filled_6 ⟨Nat.le_refl _, Nat.le_refl _⟩ hK hN hX (fun _ _ h _ => h) (ww_P.mp hP).1 ((ww_D.mp hD).1.weaken (fun _ _ _ _ => trivial)) hS hFc (fun q ce H locs z1 z2 z3 hP1 hD1 _ hk1 hS => ?_)
  obtain ⟨hP, hD⟩ := ww_f hP hD hFc hk1 hP1 hD1
  refine ct_tab (own := "StabilitySumsLaw") (E := "java/lang/IndexOutOfBoundsException") (name := "java/lang/IndexOutOfBoundsException") hown htab [] (0, 11, 14, 25) [] rfl (fun z hz => nomatch hz) (by decide) (by decide) (hts _ uw_556) (va_tabs rfl rfl (hX.2.1 (.castable "java/lang/IndexOutOfBoundsException" "java/lang/IndexOutOfBoundsException") (by decide))) z1 z2 z3 ?_
  refine lv_astore (lv' := [(5, .ref q), (0, .ref (ad 0)), (1, .int a0), (2, .long a1), (4, .ref o)]) hx hb de_A_filled_14 hl (by decide) rfl (fun ls hl => ?_)
  refine lv_iconst (v := 1) hx hb de_A_filled_16 (by decide) ?_
  subst hQ
  exact W.iret (v := 1) hx hb hr (fun t9 ht hW => ⟨⟨1, (), rfl, rfl, by rw [ht]; exact hP, va_K.moved hW.alike hK, hD⟩, hS.F ht⟩) hS.2.2 de_A_filled_17
set_option maxHeartbeats 4000000 in
set_option maxRecDepth 100000 in
theorem mt_A_hydro (l : Launch) (hlt : l.stackTraces = false) (dC : Nat → ClassId) (dI : Nat → Nat → Nat) (ad : Nat → Nat) (T : Nat → ClassId) (o : Nat) (ob : Nat → Int64) (t : St) (a0 : Int64) (a1 : Int64) (a2 : Int64) (hI : Iv t) (hok : okHx a0 a1 a2 t) (hc : t.2.2.2 2 < 12) (sz : Nat) : Met l yn_A_hydro (.codeWith yn_A_hydro cd_A_hydro 9 (some .int) [(0, 13, 16, 13), (0, 13, 20, 15)] :: UW) ({ frames := 7, cells := 1, slots := 6, locals := 116 } : Room) (va_Pc [.ref (ad 0), .long a0, .long a1, .long a2, .ref o] (Px (dC, dI) CLS (TY T) (wA ad T t o ob) sz)) (va_Qi (fun (r : Int32) (_ : Unit) => r = 0) (Bw (dC, dI) CLS (TY T) (fun _ : Unit => (wA ad T (x_bapp a0 a1 a2 t) o (vp_updL ob 0 ((nI (t.2.2.2 2 + 1) : Int32).toInt64)))) (va_A (wA ad T t o ob) sz)) (va_A (wA ad T t o ob) sz)) 1 6 (va_A (wA ad T t o ob) sz) := by
  refine va_MetW (cc := cd_A_hydro) (maxL := 9) (ret := some .int) (by decide) rfl ?_
  intro p e s m args below meth c s₁ B hml hv
  obtain ⟨rfl, ⟨hsz, hP, hK, hD0, hN⟩, hX⟩ := hv
  have hx := B.exec
  have hb := B.bytes
  have hr := B.returns
  have hts : ∀ w ∈ UW, w.before _ s = true := fun w h => atoms_spec (ws := .codeWith yn_A_hydro cd_A_hydro 9 (some .int) [(0, 13, 16, 13), (0, 13, 20, 15)] :: UW) B.pre w (List.mem_cons_of_mem _ h)
  have hown : s.vm.findClass "StabilitySumsLaw" = some m.cls := findClass_of_methodNamed B.named
  have hlocks := B.notSynchronized
  subst hsz
  have hD := hD0.self (sz := s.heap.size)
  generalize hAe : va_A (wA ad T t o ob) s.heap.size = A at hD ⊢
  have hA : ∀ q : Nat, s.heap.size ≤ q → A q := fun q h => by rw [← hAe]; exact Or.inr h
  have hS : va_S A s.heap s.heap [] := va_S.rf
  have hl := lv_entry ([.ref (ad 0), .long a0, .long a1, .long a2, .ref o]) (n := 9) (Nat.le_of_ble_eq_true rfl)
  rw [lg_entry_eq]
  generalize (lg_sl ([.ref (ad 0), .long a0, .long a1, .long a2, .ref o]) ++ List.replicate (9 - (lg_sl ([.ref (ad 0), .long a0, .long a1, .long a2, .ref o])).length) Slot.unset).toArray = ls at hl ⊢
  have hl : lv_has ls 9 [(0, .ref (ad 0)), (1, .long a0), (3, .long a1), (5, .long a2), (7, .ref o)] := hl
  generalize hQ : MQ below _ _ s 1 6 A = Q
  refine W.widen (k := 1) (n := 6) (Nat.zero_le _) (Nat.zero_le _) ?_
  refine lv_aload hx hb de_A_hydro_0 (lv_at hl 4 rfl) ?_
  refine lv_iconst (v := 0) hx hb de_A_hydro_2 (by decide) ?_
  refine lv_aload_n hx hb de_A_hydro_3 rfl (lv_at hl 0 rfl) ?_
  refine lv_lload_n hx hb de_A_hydro_4 rfl (lv_at hl 1 rfl) ?_
  refine lv_lload_n hx hb de_A_hydro_5 rfl (lv_at hl 2 rfl) ?_
  refine lv_lload hx hb de_A_hydro_6 (lv_at hl 3 rfl) ?_
  refine cf_Vi (As := [.long a0, .long a1, .long a2]) (rest := [.int 0, .ref o]) ⟨hx, hb, hml, hown, hts⟩ (mt_S_hydro l dC dI ad T t a0 a1 a2 hI hok hc) (cwV 3 hts (uw_V uw_580 uw_581 uw_582 uw_27 uw_583) rfl rfl rfl (by decide +kernel) ⟨Nat.le_of_ble_eq_true rfl, Nat.le_of_ble_eq_true rfl⟩) (va_recv hK (ww_P.mp hP).1 (ci := 0) (q0 := 0) rfl rfl) rfl hl.1 rfl (Nat.le_of_ble_eq_true rfl) de_A_hydro_8 ⟨Nat.le_refl _, Nat.le_refl _⟩ hK hN hP hD hS hA (fun r _ H locs hw hP hD hS => ?_)
  have hw : r = nI (t.2.2.2 2 + 1) := hw
  subst hw
  refine lv_i2l (v := (nI (t.2.2.2 2 + 1) : Int32).toInt64) hx hb de_A_hydro_11 rfl ?_
  refine rw_last (f := ob) (j := 0) (x := ((nI (t.2.2.2 2 + 1) : Int32).toInt64)) hx hb hK hP hD hS 33 0 rfl rfl (by decide) (by decide) de_A_hydro_12 (fun H locs hP hD hS => ?_)
  have hP : va_P (dC, dI) CLS (wA ad T (x_bapp a0 a1 a2 t) o (vp_updL ob 0 ((nI (t.2.2.2 2 + 1) : Int32).toInt64))) H := hP
  have hD : va_D A (wA ad T (x_bapp a0 a1 a2 t) o (vp_updL ob 0 ((nI (t.2.2.2 2 + 1) : Int32).toInt64))) := hD
  refine lv_goto (tgt := 24) hx hb de_A_hydro_13 (by decide) ?_
  refine lv_iconst (v := 0) hx hb de_A_hydro_24 (by decide) ?_
  subst hQ
  exact W.iret (v := 0) hx hb hr (fun t9 ht hW => ⟨⟨0, (), rfl, rfl, by rw [ht]; exact hP, va_K.moved hW.alike hK, hD⟩, hS.F ht⟩) hS.2.2 de_A_hydro_25
set_option maxHeartbeats 4000000 in
set_option maxRecDepth 100000 in
theorem mt_A_hydro_1 (l : Launch) (hlt : l.stackTraces = false) (dC : Nat → ClassId) (dI : Nat → Nat → Nat) (ad : Nat → Nat) (T : Nat → ClassId) (o : Nat) (ob : Nat → Int64) (t : St) (a0 : Int64) (a1 : Int64) (a2 : Int64) (hI : Iv t) (hb9 : ¬ okHx a0 a1 a2 t) (sz : Nat) : Met l yn_A_hydro (.codeWith yn_A_hydro cd_A_hydro 9 (some .int) [(0, 13, 16, 13), (0, 13, 20, 15)] :: UW) ({ frames := 7, cells := 1, slots := 6, locals := 116 } : Room) (va_Pc [.ref (ad 0), .long a0, .long a1, .long a2, .ref o] (Px (dC, dI) CLS (TY T) (wA ad T t o ob) sz)) (va_Qi (fun (r : Int32) (_ : Unit) => r = 1) (Bw (dC, dI) CLS (TY T) (fun _ : Unit => (wA ad T t o ob)) (va_A (wA ad T t o ob) sz)) (va_A (wA ad T t o ob) sz)) 1 6 (va_A (wA ad T t o ob) sz) := by
  refine va_MetW (cc := cd_A_hydro) (maxL := 9) (ret := some .int) (by decide) rfl ?_
  intro p e s m args below meth c s₁ B hml hv
  obtain ⟨rfl, ⟨hsz, hP, hK, hD0, hN⟩, hX⟩ := hv
  have hx := B.exec
  have hb := B.bytes
  have hr := B.returns
  have hts : ∀ w ∈ UW, w.before _ s = true := fun w h => atoms_spec (ws := .codeWith yn_A_hydro cd_A_hydro 9 (some .int) [(0, 13, 16, 13), (0, 13, 20, 15)] :: UW) B.pre w (List.mem_cons_of_mem _ h)
  have hown : s.vm.findClass "StabilitySumsLaw" = some m.cls := findClass_of_methodNamed B.named
  have hlocks := B.notSynchronized
  subst hsz
  have hD := hD0.self (sz := s.heap.size)
  generalize hAe : va_A (wA ad T t o ob) s.heap.size = A at hD ⊢
  have hA : ∀ q : Nat, s.heap.size ≤ q → A q := fun q h => by rw [← hAe]; exact Or.inr h
  have hS : va_S A s.heap s.heap [] := va_S.rf
  have hl := lv_entry ([.ref (ad 0), .long a0, .long a1, .long a2, .ref o]) (n := 9) (Nat.le_of_ble_eq_true rfl)
  rw [lg_entry_eq]
  generalize (lg_sl ([.ref (ad 0), .long a0, .long a1, .long a2, .ref o]) ++ List.replicate (9 - (lg_sl ([.ref (ad 0), .long a0, .long a1, .long a2, .ref o])).length) Slot.unset).toArray = ls at hl ⊢
  have hl : lv_has ls 9 [(0, .ref (ad 0)), (1, .long a0), (3, .long a1), (5, .long a2), (7, .ref o)] := hl
  generalize hQ : MQ below _ _ s 1 6 A = Q
  refine lv_aload hx hb de_A_hydro_0 (lv_at hl 4 rfl) ?_
  refine lv_iconst (v := 0) hx hb de_A_hydro_2 (by decide) ?_
  refine lv_aload_n hx hb de_A_hydro_3 rfl (lv_at hl 0 rfl) ?_
  refine lv_lload_n hx hb de_A_hydro_4 rfl (lv_at hl 1 rfl) ?_
  refine lv_lload_n hx hb de_A_hydro_5 rfl (lv_at hl 2 rfl) ?_
  refine lv_lload hx hb de_A_hydro_6 (lv_at hl 3 rfl) ?_
  obtain ⟨m9, meth9, c9, g1, g2, g3, -, -, htab, -⟩ := Cond.codeWith_spec (hts _ uw_579)
  cases B.named.symm.trans g1
  cases B.method.symm.trans g2
  cases (Stand.of_body B).code.symm.trans g3
  have hFc := cl_free (ww_D.mp hD).1 hS hA
  refine tc_V (As := [.long a0, .long a1, .long a2]) (rest := [.int 0, .ref o]) ⟨hx, hb, hml, hown, hts⟩ (mt_S_hydro_1 l hlt dC dI ad T t a0 a1 a2 hI hb9) (cwV 3 hts (uw_V uw_580 uw_581 uw_582 uw_27 uw_583) rfl rfl rfl (by decide +kernel) ⟨Nat.le_of_ble_eq_true rfl, Nat.le_of_ble_eq_true rfl⟩) (va_recv hK (ww_P.mp hP).1 (ci := 0) (q0 := 0) rfl rfl) rfl hl.1 rfl (Nat.le_of_ble_eq_true rfl) de_A_hydro_8 ⟨Nat.le_refl _, Nat.le_refl _⟩ hK hN hX (fun _ _ h _ => h) (ww_P.mp hP).1 ((ww_D.mp hD).1.weaken (fun _ _ _ _ => trivial)) hS hFc (fun q ce H locs z1 z2 z3 hP1 hD1 _ hk1 hS => ?_)
  obtain ⟨hP, hD⟩ := ww_f hP hD hFc hk1 hP1 hD1
  refine ct_tab (own := "StabilitySumsLaw") (E := "java/lang/IllegalArgumentException") (name := "java/lang/IllegalArgumentException") hown htab [] (0, 13, 16, 13) [(0, 13, 20, 15)] rfl (fun z hz => nomatch hz) (by decide) (by decide) (hts _ uw_438) (va_tabs rfl rfl (hX.2.1 (.castable "java/lang/IllegalArgumentException" "java/lang/IllegalArgumentException") (by decide))) z1 z2 z3 ?_
  refine lv_astore (lv' := [(8, .ref q), (0, .ref (ad 0)), (1, .long a0), (3, .long a1), (5, .long a2), (7, .ref o)]) hx hb de_A_hydro_16 hl (by decide) rfl (fun ls hl => ?_)
  refine lv_iconst (v := 1) hx hb de_A_hydro_18 (by decide) ?_
  subst hQ
  exact W.iret (v := 1) hx hb hr (fun t9 ht hW => ⟨⟨1, (), rfl, rfl, by rw [ht]; exact hP, va_K.moved hW.alike hK, hD⟩, hS.F ht⟩) hS.2.2 de_A_hydro_19
set_option maxHeartbeats 4000000 in
set_option maxRecDepth 100000 in
theorem mt_A_hydro_2 (l : Launch) (hlt : l.stackTraces = false) (dC : Nat → ClassId) (dI : Nat → Nat → Nat) (ad : Nat → Nat) (T : Nat → ClassId) (o : Nat) (ob : Nat → Int64) (t : St) (a0 : Int64) (a1 : Int64) (a2 : Int64) (hI : Iv t) (hok : okHx a0 a1 a2 t) (hc : ¬ t.2.2.2 2 < 12) (sz : Nat) : Met l yn_A_hydro (.codeWith yn_A_hydro cd_A_hydro 9 (some .int) [(0, 13, 16, 13), (0, 13, 20, 15)] :: UW) ({ frames := 7, cells := 1, slots := 6, locals := 116 } : Room) (va_Pc [.ref (ad 0), .long a0, .long a1, .long a2, .ref o] (Px (dC, dI) CLS (TY T) (wA ad T t o ob) sz)) (va_Qi (fun (r : Int32) (_ : Unit) => r = 2) (Bw (dC, dI) CLS (TY T) (fun _ : Unit => (wA ad T t o ob)) (va_A (wA ad T t o ob) sz)) (va_A (wA ad T t o ob) sz)) 1 6 (va_A (wA ad T t o ob) sz) := by
  refine va_MetW (cc := cd_A_hydro) (maxL := 9) (ret := some .int) (by decide) rfl ?_
  intro p e s m args below meth c s₁ B hml hv
  obtain ⟨rfl, ⟨hsz, hP, hK, hD0, hN⟩, hX⟩ := hv
  have hx := B.exec
  have hb := B.bytes
  have hr := B.returns
  have hts : ∀ w ∈ UW, w.before _ s = true := fun w h => atoms_spec (ws := .codeWith yn_A_hydro cd_A_hydro 9 (some .int) [(0, 13, 16, 13), (0, 13, 20, 15)] :: UW) B.pre w (List.mem_cons_of_mem _ h)
  have hown : s.vm.findClass "StabilitySumsLaw" = some m.cls := findClass_of_methodNamed B.named
  have hlocks := B.notSynchronized
  subst hsz
  have hD := hD0.self (sz := s.heap.size)
  generalize hAe : va_A (wA ad T t o ob) s.heap.size = A at hD ⊢
  have hA : ∀ q : Nat, s.heap.size ≤ q → A q := fun q h => by rw [← hAe]; exact Or.inr h
  have hS : va_S A s.heap s.heap [] := va_S.rf
  have hl := lv_entry ([.ref (ad 0), .long a0, .long a1, .long a2, .ref o]) (n := 9) (Nat.le_of_ble_eq_true rfl)
  rw [lg_entry_eq]
  generalize (lg_sl ([.ref (ad 0), .long a0, .long a1, .long a2, .ref o]) ++ List.replicate (9 - (lg_sl ([.ref (ad 0), .long a0, .long a1, .long a2, .ref o])).length) Slot.unset).toArray = ls at hl ⊢
  have hl : lv_has ls 9 [(0, .ref (ad 0)), (1, .long a0), (3, .long a1), (5, .long a2), (7, .ref o)] := hl
  generalize hQ : MQ below _ _ s 1 6 A = Q
  refine lv_aload hx hb de_A_hydro_0 (lv_at hl 4 rfl) ?_
  refine lv_iconst (v := 0) hx hb de_A_hydro_2 (by decide) ?_
  refine lv_aload_n hx hb de_A_hydro_3 rfl (lv_at hl 0 rfl) ?_
  refine lv_lload_n hx hb de_A_hydro_4 rfl (lv_at hl 1 rfl) ?_
  refine lv_lload_n hx hb de_A_hydro_5 rfl (lv_at hl 2 rfl) ?_
  refine lv_lload hx hb de_A_hydro_6 (lv_at hl 3 rfl) ?_
  obtain ⟨m9, meth9, c9, g1, g2, g3, -, -, htab, -⟩ := Cond.codeWith_spec (hts _ uw_579)
  cases B.named.symm.trans g1
  cases B.method.symm.trans g2
  cases (Stand.of_body B).code.symm.trans g3
  have hFc := cl_free (ww_D.mp hD).1 hS hA
  refine tc_V (As := [.long a0, .long a1, .long a2]) (rest := [.int 0, .ref o]) ⟨hx, hb, hml, hown, hts⟩ (mt_S_hydro_2 l hlt dC dI ad T t a0 a1 a2 hI hok hc) (cwV 3 hts (uw_V uw_580 uw_581 uw_582 uw_27 uw_583) rfl rfl rfl (by decide +kernel) ⟨Nat.le_of_ble_eq_true rfl, Nat.le_of_ble_eq_true rfl⟩) (va_recv hK (ww_P.mp hP).1 (ci := 0) (q0 := 0) rfl rfl) rfl hl.1 rfl (Nat.le_of_ble_eq_true rfl) de_A_hydro_8 ⟨Nat.le_refl _, Nat.le_refl _⟩ hK hN hX (fun _ _ h _ => h) (ww_P.mp hP).1 ((ww_D.mp hD).1.weaken (fun _ _ _ _ => trivial)) hS hFc (fun q ce H locs z1 z2 z3 hP1 hD1 _ hk1 hS => ?_)
  obtain ⟨hP, hD⟩ := ww_f hP hD hFc hk1 hP1 hD1
  refine ct_tab (own := "StabilitySumsLaw") (E := "java/lang/IllegalStateException") (name := "java/lang/IllegalStateException") hown htab [(0, 13, 16, 13)] (0, 13, 20, 15) [] rfl (fun z hz => by
    simp only [List.mem_cons, List.not_mem_nil, or_false] at hz
    rcases hz with rfl
    · exact ⟨by decide, "java/lang/IllegalArgumentException", hts _ uw_438, hX.2.2.2 ("java/lang/IllegalStateException", "java/lang/IllegalArgumentException") (by decide)⟩) (by decide) (by decide) (hts _ uw_439) (va_tabs rfl rfl (hX.2.1 (.castable "java/lang/IllegalStateException" "java/lang/IllegalStateException") (by decide))) z1 z2 z3 ?_
  refine lv_astore (lv' := [(8, .ref q), (0, .ref (ad 0)), (1, .long a0), (3, .long a1), (5, .long a2), (7, .ref o)]) hx hb de_A_hydro_20 hl (by decide) rfl (fun ls hl => ?_)
  refine lv_iconst (v := 2) hx hb de_A_hydro_22 (by decide) ?_
  subst hQ
  exact W.iret (v := 2) hx hb hr (fun t9 ht hW => ⟨⟨2, (), rfl, rfl, by rw [ht]; exact hP, va_K.moved hW.alike hK, hD⟩, hS.F ht⟩) hS.2.2 de_A_hydro_23
set_option maxHeartbeats 4000000 in
set_option maxRecDepth 100000 in
theorem mt_A_value (l : Launch) (hlt : l.stackTraces = false) (dC : Nat → ClassId) (dI : Nat → Nat → Nat) (ad : Nat → Nat) (T : Nat → ClassId) (o : Nat) (ob : Nat → Int64) (t : St) (a0 : Int32) (a1 : Int32) (hI : Iv t) (hok : okV a0 a1) (hn9 : ¬ x_noans a0 (x_gath t)) (sz : Nat) : Met l yn_A_value (.codeWith yn_A_value cd_A_value 5 (some .int) [(0, 9, 12, 13), (0, 9, 16, 35)] :: UW) ({ frames := 7, cells := 1, slots := 6, locals := 114 } : Room) (va_Pc [.ref (ad 0), .int a0, .int a1, .ref o] (Px (dC, dI) CLS (TY T) (wA ad T t o ob) sz)) (va_Qi (fun (r : Int32) (_ : Unit) => r = 0) (Bw (dC, dI) CLS (TY T) (fun _ : Unit => (wA ad T (x_vt a0 a1 t) o (vp_updL ob 0 (x_vv a0 a1 t)))) (va_A (wA ad T t o ob) sz)) (va_A (wA ad T t o ob) sz)) 1 6 (va_A (wA ad T t o ob) sz) := by
  refine va_MetW (cc := cd_A_value) (maxL := 5) (ret := some .int) (by decide) rfl ?_
  intro p e s m args below meth c s₁ B hml hv
  obtain ⟨rfl, ⟨hsz, hP, hK, hD0, hN⟩, hX⟩ := hv
  have hx := B.exec
  have hb := B.bytes
  have hr := B.returns
  have hts : ∀ w ∈ UW, w.before _ s = true := fun w h => atoms_spec (ws := .codeWith yn_A_value cd_A_value 5 (some .int) [(0, 9, 12, 13), (0, 9, 16, 35)] :: UW) B.pre w (List.mem_cons_of_mem _ h)
  have hown : s.vm.findClass "StabilitySumsLaw" = some m.cls := findClass_of_methodNamed B.named
  have hlocks := B.notSynchronized
  subst hsz
  have hD := hD0.self (sz := s.heap.size)
  generalize hAe : va_A (wA ad T t o ob) s.heap.size = A at hD ⊢
  have hA : ∀ q : Nat, s.heap.size ≤ q → A q := fun q h => by rw [← hAe]; exact Or.inr h
  have hS : va_S A s.heap s.heap [] := va_S.rf
  have hl := lv_entry ([.ref (ad 0), .int a0, .int a1, .ref o]) (n := 5) (Nat.le_of_ble_eq_true rfl)
  rw [lg_entry_eq]
  generalize (lg_sl ([.ref (ad 0), .int a0, .int a1, .ref o]) ++ List.replicate (5 - (lg_sl ([.ref (ad 0), .int a0, .int a1, .ref o])).length) Slot.unset).toArray = ls at hl ⊢
  have hl : lv_has ls 5 [(0, .ref (ad 0)), (1, .int a0), (2, .int a1), (3, .ref o)] := hl
  generalize hQ : MQ below _ _ s 1 6 A = Q
  refine W.widen (k := 1) (n := 6) (Nat.zero_le _) (Nat.zero_le _) ?_
  refine lv_aload_n hx hb de_A_value_0 rfl (lv_at hl 3 rfl) ?_
  refine lv_iconst (v := 0) hx hb de_A_value_1 (by decide) ?_
  refine lv_aload_n hx hb de_A_value_2 rfl (lv_at hl 0 rfl) ?_
  refine lv_iload_n hx hb de_A_value_3 rfl (lv_at hl 1 rfl) ?_
  refine lv_iload_n hx hb de_A_value_4 rfl (lv_at hl 2 rfl) ?_
  refine cf_Vl (As := [.int a0, .int a1]) (rest := [.int 0, .ref o]) ⟨hx, hb, hml, hown, hts⟩ (mt_S_value l dC dI ad T t a0 a1 hI hok hn9) (cwV 2 hts (uw_V uw_599 uw_600 uw_601 uw_27 uw_602) rfl rfl rfl (by decide +kernel) ⟨Nat.le_of_ble_eq_true rfl, Nat.le_of_ble_eq_true rfl⟩) (va_recv hK (ww_P.mp hP).1 (ci := 0) (q0 := 0) rfl rfl) rfl hl.1 rfl (Nat.le_of_ble_eq_true rfl) de_A_value_5 ⟨Nat.le_refl _, Nat.le_refl _⟩ hK hN hP hD hS hA (fun r _ H locs hw hP hD hS => ?_)
  have hw : r = x_vv a0 a1 t := hw
  subst hw
  refine rw_last (f := ob) (j := 0) (x := (x_vv a0 a1 t)) hx hb hK hP hD hS 33 0 rfl rfl (by decide) (by decide) de_A_value_8 (fun H locs hP hD hS => ?_)
  have hP : va_P (dC, dI) CLS (wA ad T (x_vt a0 a1 t) o (vp_updL ob 0 (x_vv a0 a1 t))) H := hP
  have hD : va_D A (wA ad T (x_vt a0 a1 t) o (vp_updL ob 0 (x_vv a0 a1 t))) := hD
  refine lv_goto (tgt := 20) hx hb de_A_value_9 (by decide) ?_
  refine lv_iconst (v := 0) hx hb de_A_value_20 (by decide) ?_
  subst hQ
  exact W.iret (v := 0) hx hb hr (fun t9 ht hW => ⟨⟨0, (), rfl, rfl, by rw [ht]; exact hP, va_K.moved hW.alike hK, hD⟩, hS.F ht⟩) hS.2.2 de_A_value_21
set_option maxHeartbeats 4000000 in
set_option maxRecDepth 100000 in
theorem mt_A_value_1 (l : Launch) (hlt : l.stackTraces = false) (dC : Nat → ClassId) (dI : Nat → Nat → Nat) (ad : Nat → Nat) (T : Nat → ClassId) (o : Nat) (ob : Nat → Int64) (t : St) (a0 : Int32) (a1 : Int32) (hI : Iv t) (hb9 : ¬ okV a0 a1) (sz : Nat) : Met l yn_A_value (.codeWith yn_A_value cd_A_value 5 (some .int) [(0, 9, 12, 13), (0, 9, 16, 35)] :: UW) ({ frames := 7, cells := 1, slots := 6, locals := 114 } : Room) (va_Pc [.ref (ad 0), .int a0, .int a1, .ref o] (Px (dC, dI) CLS (TY T) (wA ad T t o ob) sz)) (va_Qi (fun (r : Int32) (_ : Unit) => r = 1) (Bw (dC, dI) CLS (TY T) (fun _ : Unit => (wA ad T t o ob)) (va_A (wA ad T t o ob) sz)) (va_A (wA ad T t o ob) sz)) 1 6 (va_A (wA ad T t o ob) sz) := by
  refine va_MetW (cc := cd_A_value) (maxL := 5) (ret := some .int) (by decide) rfl ?_
  intro p e s m args below meth c s₁ B hml hv
  obtain ⟨rfl, ⟨hsz, hP, hK, hD0, hN⟩, hX⟩ := hv
  have hx := B.exec
  have hb := B.bytes
  have hr := B.returns
  have hts : ∀ w ∈ UW, w.before _ s = true := fun w h => atoms_spec (ws := .codeWith yn_A_value cd_A_value 5 (some .int) [(0, 9, 12, 13), (0, 9, 16, 35)] :: UW) B.pre w (List.mem_cons_of_mem _ h)
  have hown : s.vm.findClass "StabilitySumsLaw" = some m.cls := findClass_of_methodNamed B.named
  have hlocks := B.notSynchronized
  subst hsz
  have hD := hD0.self (sz := s.heap.size)
  generalize hAe : va_A (wA ad T t o ob) s.heap.size = A at hD ⊢
  have hA : ∀ q : Nat, s.heap.size ≤ q → A q := fun q h => by rw [← hAe]; exact Or.inr h
  have hS : va_S A s.heap s.heap [] := va_S.rf
  have hl := lv_entry ([.ref (ad 0), .int a0, .int a1, .ref o]) (n := 5) (Nat.le_of_ble_eq_true rfl)
  rw [lg_entry_eq]
  generalize (lg_sl ([.ref (ad 0), .int a0, .int a1, .ref o]) ++ List.replicate (5 - (lg_sl ([.ref (ad 0), .int a0, .int a1, .ref o])).length) Slot.unset).toArray = ls at hl ⊢
  have hl : lv_has ls 5 [(0, .ref (ad 0)), (1, .int a0), (2, .int a1), (3, .ref o)] := hl
  generalize hQ : MQ below _ _ s 1 6 A = Q
  refine lv_aload_n hx hb de_A_value_0 rfl (lv_at hl 3 rfl) ?_
  refine lv_iconst (v := 0) hx hb de_A_value_1 (by decide) ?_
  refine lv_aload_n hx hb de_A_value_2 rfl (lv_at hl 0 rfl) ?_
  refine lv_iload_n hx hb de_A_value_3 rfl (lv_at hl 1 rfl) ?_
  refine lv_iload_n hx hb de_A_value_4 rfl (lv_at hl 2 rfl) ?_
  obtain ⟨m9, meth9, c9, g1, g2, g3, -, -, htab, -⟩ := Cond.codeWith_spec (hts _ uw_597)
  cases B.named.symm.trans g1
  cases B.method.symm.trans g2
  cases (Stand.of_body B).code.symm.trans g3
  have hFc := cl_free (ww_D.mp hD).1 hS hA
  refine tc_V (As := [.int a0, .int a1]) (rest := [.int 0, .ref o]) ⟨hx, hb, hml, hown, hts⟩ (mt_S_value_1 l hlt dC dI ad T t a0 a1 hI hb9) (cwV 2 hts (uw_V uw_599 uw_600 uw_601 uw_27 uw_602) rfl rfl rfl (by decide +kernel) ⟨Nat.le_of_ble_eq_true rfl, Nat.le_of_ble_eq_true rfl⟩) (va_recv hK (ww_P.mp hP).1 (ci := 0) (q0 := 0) rfl rfl) rfl hl.1 rfl (Nat.le_of_ble_eq_true rfl) de_A_value_5 ⟨Nat.le_refl _, Nat.le_refl _⟩ hK hN hX (fun _ _ h _ => h) (ww_P.mp hP).1 ((ww_D.mp hD).1.weaken (fun _ _ _ _ => trivial)) hS hFc (fun q ce H locs z1 z2 z3 hP1 hD1 _ hk1 hS => ?_)
  obtain ⟨hP, hD⟩ := ww_f hP hD hFc hk1 hP1 hD1
  refine ct_tab (own := "StabilitySumsLaw") (E := "java/lang/IllegalArgumentException") (name := "java/lang/IllegalArgumentException") hown htab [] (0, 9, 12, 13) [(0, 9, 16, 35)] rfl (fun z hz => nomatch hz) (by decide) (by decide) (hts _ uw_438) (va_tabs rfl rfl (hX.2.1 (.castable "java/lang/IllegalArgumentException" "java/lang/IllegalArgumentException") (by decide))) z1 z2 z3 ?_
  refine lv_astore (lv' := [(4, .ref q), (0, .ref (ad 0)), (1, .int a0), (2, .int a1), (3, .ref o)]) hx hb de_A_value_12 hl (by decide) rfl (fun ls hl => ?_)
  refine lv_iconst (v := 1) hx hb de_A_value_14 (by decide) ?_
  subst hQ
  exact W.iret (v := 1) hx hb hr (fun t9 ht hW => ⟨⟨1, (), rfl, rfl, by rw [ht]; exact hP, va_K.moved hW.alike hK, hD⟩, hS.F ht⟩) hS.2.2 de_A_value_15
set_option maxHeartbeats 4000000 in
set_option maxRecDepth 100000 in
theorem mt_A_value_2 (l : Launch) (hlt : l.stackTraces = false) (dC : Nat → ClassId) (dI : Nat → Nat → Nat) (ad : Nat → Nat) (T : Nat → ClassId) (o : Nat) (ob : Nat → Int64) (t : St) (a0 : Int32) (a1 : Int32) (hI : Iv t) (hok : okV a0 a1) (hn9 : x_noans a0 (x_gath t)) (sz : Nat) : Met l yn_A_value (.codeWith yn_A_value cd_A_value 5 (some .int) [(0, 9, 12, 13), (0, 9, 16, 35)] :: UW) ({ frames := 7, cells := 1, slots := 6, locals := 114 } : Room) (va_Pc [.ref (ad 0), .int a0, .int a1, .ref o] (Px (dC, dI) CLS (TY T) (wA ad T t o ob) sz)) (va_Qi (fun (r : Int32) (_ : Unit) => r = 2) (Bw (dC, dI) CLS (TY T) (fun _ : Unit => (wA ad T (x_gath t) o ob)) (va_A (wA ad T t o ob) sz)) (va_A (wA ad T t o ob) sz)) 1 6 (va_A (wA ad T t o ob) sz) := by
  refine va_MetW (cc := cd_A_value) (maxL := 5) (ret := some .int) (by decide) rfl ?_
  intro p e s m args below meth c s₁ B hml hv
  obtain ⟨rfl, ⟨hsz, hP, hK, hD0, hN⟩, hX⟩ := hv
  have hx := B.exec
  have hb := B.bytes
  have hr := B.returns
  have hts : ∀ w ∈ UW, w.before _ s = true := fun w h => atoms_spec (ws := .codeWith yn_A_value cd_A_value 5 (some .int) [(0, 9, 12, 13), (0, 9, 16, 35)] :: UW) B.pre w (List.mem_cons_of_mem _ h)
  have hown : s.vm.findClass "StabilitySumsLaw" = some m.cls := findClass_of_methodNamed B.named
  have hlocks := B.notSynchronized
  subst hsz
  have hD := hD0.self (sz := s.heap.size)
  generalize hAe : va_A (wA ad T t o ob) s.heap.size = A at hD ⊢
  have hA : ∀ q : Nat, s.heap.size ≤ q → A q := fun q h => by rw [← hAe]; exact Or.inr h
  have hS : va_S A s.heap s.heap [] := va_S.rf
  have hl := lv_entry ([.ref (ad 0), .int a0, .int a1, .ref o]) (n := 5) (Nat.le_of_ble_eq_true rfl)
  rw [lg_entry_eq]
  generalize (lg_sl ([.ref (ad 0), .int a0, .int a1, .ref o]) ++ List.replicate (5 - (lg_sl ([.ref (ad 0), .int a0, .int a1, .ref o])).length) Slot.unset).toArray = ls at hl ⊢
  have hl : lv_has ls 5 [(0, .ref (ad 0)), (1, .int a0), (2, .int a1), (3, .ref o)] := hl
  generalize hQ : MQ below _ _ s 1 6 A = Q
  refine lv_aload_n hx hb de_A_value_0 rfl (lv_at hl 3 rfl) ?_
  refine lv_iconst (v := 0) hx hb de_A_value_1 (by decide) ?_
  refine lv_aload_n hx hb de_A_value_2 rfl (lv_at hl 0 rfl) ?_
  refine lv_iload_n hx hb de_A_value_3 rfl (lv_at hl 1 rfl) ?_
  refine lv_iload_n hx hb de_A_value_4 rfl (lv_at hl 2 rfl) ?_
  obtain ⟨m9, meth9, c9, g1, g2, g3, -, -, htab, -⟩ := Cond.codeWith_spec (hts _ uw_597)
  cases B.named.symm.trans g1
  cases B.method.symm.trans g2
  cases (Stand.of_body B).code.symm.trans g3
  have hFc := cl_free (ww_D.mp hD).1 hS hA
  refine tc_V (As := [.int a0, .int a1]) (rest := [.int 0, .ref o]) ⟨hx, hb, hml, hown, hts⟩ (mt_S_value_2 l hlt dC dI ad T t a0 a1 hI hok hn9) (cwV 2 hts (uw_V uw_599 uw_600 uw_601 uw_27 uw_602) rfl rfl rfl (by decide +kernel) ⟨Nat.le_of_ble_eq_true rfl, Nat.le_of_ble_eq_true rfl⟩) (va_recv hK (ww_P.mp hP).1 (ci := 0) (q0 := 0) rfl rfl) rfl hl.1 rfl (Nat.le_of_ble_eq_true rfl) de_A_value_5 ⟨Nat.le_refl _, Nat.le_refl _⟩ hK hN hX (fun _ _ h _ => h) (ww_P.mp hP).1 ((ww_D.mp hD).1.weaken (fun _ _ _ _ => trivial)) hS hFc (fun q ce H locs z1 z2 z3 hP1 hD1 _ hk1 hS => ?_)
  obtain ⟨hP, hD⟩ := ww_f hP hD hFc hk1 hP1 hD1
  refine ct_tab (own := "StabilitySumsLaw") (E := "java/lang/ArithmeticException") (name := "java/lang/ArithmeticException") hown htab [(0, 9, 12, 13)] (0, 9, 16, 35) [] rfl (fun z hz => by
    simp only [List.mem_cons, List.not_mem_nil, or_false] at hz
    rcases hz with rfl
    · exact ⟨by decide, "java/lang/IllegalArgumentException", hts _ uw_438, hX.2.2.2 ("java/lang/ArithmeticException", "java/lang/IllegalArgumentException") (by decide)⟩) (by decide) (by decide) (hts _ uw_598) (va_tabs rfl rfl (hX.2.1 (.castable "java/lang/ArithmeticException" "java/lang/ArithmeticException") (by decide))) z1 z2 z3 ?_
  refine lv_astore (lv' := [(4, .ref q), (0, .ref (ad 0)), (1, .int a0), (2, .int a1), (3, .ref o)]) hx hb de_A_value_16 hl (by decide) rfl (fun ls hl => ?_)
  refine lv_iconst (v := 2) hx hb de_A_value_18 (by decide) ?_
  subst hQ
  exact W.iret (v := 2) hx hb hr (fun t9 ht hW => ⟨⟨2, (), rfl, rfl, by rw [ht]; exact hP, va_K.moved hW.alike hK, hD⟩, hS.F ht⟩) hS.2.2 de_A_value_19
set_option maxHeartbeats 4000000 in
set_option maxRecDepth 100000 in
theorem mt_A_shear (l : Launch) (hlt : l.stackTraces = false) (dC : Nat → ClassId) (dI : Nat → Nat → Nat) (ad : Nat → Nat) (T : Nat → ClassId) (o : Nat) (ob : Nat → Int64) (t : St) (a0 : Int64) (hI : Iv t) (hok : x_pl a0) (sz : Nat) : Met l yn_A_shear (.codeWith yn_A_shear cd_A_shear 5 (some .int) [(0, 8, 11, 13)] :: UW) ({ frames := 7, cells := 1, slots := 6, locals := 114 } : Room) (va_Pc [.ref (ad 0), .long a0, .ref o] (Px (dC, dI) CLS (TY T) (wA ad T t o ob) sz)) (va_Qi (fun (r : Int32) (_ : Unit) => r = 0) (Bw (dC, dI) CLS (TY T) (fun _ : Unit => (wA ad T (x_sg a0 t) o (vp_updL ob 0 (x_shear (x_sg a0 t) 0)))) (va_A (wA ad T t o ob) sz)) (va_A (wA ad T t o ob) sz)) 1 6 (va_A (wA ad T t o ob) sz) := by
  refine va_MetW (cc := cd_A_shear) (maxL := 5) (ret := some .int) (by decide) rfl ?_
  intro p e s m args below meth c s₁ B hml hv
  obtain ⟨rfl, ⟨hsz, hP, hK, hD0, hN⟩, hX⟩ := hv
  have hx := B.exec
  have hb := B.bytes
  have hr := B.returns
  have hts : ∀ w ∈ UW, w.before _ s = true := fun w h => atoms_spec (ws := .codeWith yn_A_shear cd_A_shear 5 (some .int) [(0, 8, 11, 13)] :: UW) B.pre w (List.mem_cons_of_mem _ h)
  have hown : s.vm.findClass "StabilitySumsLaw" = some m.cls := findClass_of_methodNamed B.named
  have hlocks := B.notSynchronized
  subst hsz
  have hD := hD0.self (sz := s.heap.size)
  generalize hAe : va_A (wA ad T t o ob) s.heap.size = A at hD ⊢
  have hA : ∀ q : Nat, s.heap.size ≤ q → A q := fun q h => by rw [← hAe]; exact Or.inr h
  have hS : va_S A s.heap s.heap [] := va_S.rf
  have hl := lv_entry ([.ref (ad 0), .long a0, .ref o]) (n := 5) (Nat.le_of_ble_eq_true rfl)
  rw [lg_entry_eq]
  generalize (lg_sl ([.ref (ad 0), .long a0, .ref o]) ++ List.replicate (5 - (lg_sl ([.ref (ad 0), .long a0, .ref o])).length) Slot.unset).toArray = ls at hl ⊢
  have hl : lv_has ls 5 [(0, .ref (ad 0)), (1, .long a0), (3, .ref o)] := hl
  generalize hQ : MQ below _ _ s 1 6 A = Q
  refine W.widen (k := 1) (n := 6) (Nat.zero_le _) (Nat.zero_le _) ?_
  refine lv_aload_n hx hb de_A_shear_0 rfl (lv_at hl 2 rfl) ?_
  refine lv_iconst (v := 0) hx hb de_A_shear_1 (by decide) ?_
  refine lv_aload_n hx hb de_A_shear_2 rfl (lv_at hl 0 rfl) ?_
  refine lv_lload_n hx hb de_A_shear_3 rfl (lv_at hl 1 rfl) ?_
  refine cf_Vl (As := [.long a0]) (rest := [.int 0, .ref o]) ⟨hx, hb, hml, hown, hts⟩ (mt_S_shear l dC dI ad T t a0 hI hok) (cwV 1 hts (uw_V uw_632 uw_633 uw_634 uw_27 uw_635) rfl rfl rfl (by decide +kernel) ⟨Nat.le_of_ble_eq_true rfl, Nat.le_of_ble_eq_true rfl⟩) (va_recv hK (ww_P.mp hP).1 (ci := 0) (q0 := 0) rfl rfl) rfl hl.1 rfl (Nat.le_of_ble_eq_true rfl) de_A_shear_4 ⟨Nat.le_refl _, Nat.le_refl _⟩ hK hN hP hD hS hA (fun r _ H locs hw hP hD hS => ?_)
  have hw : r = x_shear (x_sg a0 t) 0 := hw
  subst hw
  refine rw_last (f := ob) (j := 0) (x := (x_shear (x_sg a0 t) 0)) hx hb hK hP hD hS 33 0 rfl rfl (by decide) (by decide) de_A_shear_7 (fun H locs hP hD hS => ?_)
  have hP : va_P (dC, dI) CLS (wA ad T (x_sg a0 t) o (vp_updL ob 0 (x_shear (x_sg a0 t) 0))) H := hP
  have hD : va_D A (wA ad T (x_sg a0 t) o (vp_updL ob 0 (x_shear (x_sg a0 t) 0))) := hD
  refine lv_goto (tgt := 15) hx hb de_A_shear_8 (by decide) ?_
  refine lv_iconst (v := 0) hx hb de_A_shear_15 (by decide) ?_
  subst hQ
  exact W.iret (v := 0) hx hb hr (fun t9 ht hW => ⟨⟨0, (), rfl, rfl, by rw [ht]; exact hP, va_K.moved hW.alike hK, hD⟩, hS.F ht⟩) hS.2.2 de_A_shear_16
set_option maxHeartbeats 4000000 in
set_option maxRecDepth 100000 in
theorem mt_A_shear_1 (l : Launch) (hlt : l.stackTraces = false) (dC : Nat → ClassId) (dI : Nat → Nat → Nat) (ad : Nat → Nat) (T : Nat → ClassId) (o : Nat) (ob : Nat → Int64) (t : St) (a0 : Int64) (hI : Iv t) (hb9 : ¬ x_pl a0) (sz : Nat) : Met l yn_A_shear (.codeWith yn_A_shear cd_A_shear 5 (some .int) [(0, 8, 11, 13)] :: UW) ({ frames := 7, cells := 1, slots := 6, locals := 114 } : Room) (va_Pc [.ref (ad 0), .long a0, .ref o] (Px (dC, dI) CLS (TY T) (wA ad T t o ob) sz)) (va_Qi (fun (r : Int32) (_ : Unit) => r = 1) (Bw (dC, dI) CLS (TY T) (fun _ : Unit => (wA ad T t o ob)) (va_A (wA ad T t o ob) sz)) (va_A (wA ad T t o ob) sz)) 1 6 (va_A (wA ad T t o ob) sz) := by
  refine va_MetW (cc := cd_A_shear) (maxL := 5) (ret := some .int) (by decide) rfl ?_
  intro p e s m args below meth c s₁ B hml hv
  obtain ⟨rfl, ⟨hsz, hP, hK, hD0, hN⟩, hX⟩ := hv
  have hx := B.exec
  have hb := B.bytes
  have hr := B.returns
  have hts : ∀ w ∈ UW, w.before _ s = true := fun w h => atoms_spec (ws := .codeWith yn_A_shear cd_A_shear 5 (some .int) [(0, 8, 11, 13)] :: UW) B.pre w (List.mem_cons_of_mem _ h)
  have hown : s.vm.findClass "StabilitySumsLaw" = some m.cls := findClass_of_methodNamed B.named
  have hlocks := B.notSynchronized
  subst hsz
  have hD := hD0.self (sz := s.heap.size)
  generalize hAe : va_A (wA ad T t o ob) s.heap.size = A at hD ⊢
  have hA : ∀ q : Nat, s.heap.size ≤ q → A q := fun q h => by rw [← hAe]; exact Or.inr h
  have hS : va_S A s.heap s.heap [] := va_S.rf
  have hl := lv_entry ([.ref (ad 0), .long a0, .ref o]) (n := 5) (Nat.le_of_ble_eq_true rfl)
  rw [lg_entry_eq]
  generalize (lg_sl ([.ref (ad 0), .long a0, .ref o]) ++ List.replicate (5 - (lg_sl ([.ref (ad 0), .long a0, .ref o])).length) Slot.unset).toArray = ls at hl ⊢
  have hl : lv_has ls 5 [(0, .ref (ad 0)), (1, .long a0), (3, .ref o)] := hl
  generalize hQ : MQ below _ _ s 1 6 A = Q
  refine lv_aload_n hx hb de_A_shear_0 rfl (lv_at hl 2 rfl) ?_
  refine lv_iconst (v := 0) hx hb de_A_shear_1 (by decide) ?_
  refine lv_aload_n hx hb de_A_shear_2 rfl (lv_at hl 0 rfl) ?_
  refine lv_lload_n hx hb de_A_shear_3 rfl (lv_at hl 1 rfl) ?_
  obtain ⟨m9, meth9, c9, g1, g2, g3, -, -, htab, -⟩ := Cond.codeWith_spec (hts _ uw_631)
  cases B.named.symm.trans g1
  cases B.method.symm.trans g2
  cases (Stand.of_body B).code.symm.trans g3
  have hFc := cl_free (ww_D.mp hD).1 hS hA
  refine tc_V (As := [.long a0]) (rest := [.int 0, .ref o]) ⟨hx, hb, hml, hown, hts⟩ (mt_S_shear_1 l hlt dC dI ad T t a0 hI hb9) (cwV 1 hts (uw_V uw_632 uw_633 uw_634 uw_27 uw_635) rfl rfl rfl (by decide +kernel) ⟨Nat.le_of_ble_eq_true rfl, Nat.le_of_ble_eq_true rfl⟩) (va_recv hK (ww_P.mp hP).1 (ci := 0) (q0 := 0) rfl rfl) rfl hl.1 rfl (Nat.le_of_ble_eq_true rfl) de_A_shear_4 ⟨Nat.le_refl _, Nat.le_refl _⟩ hK hN hX (fun _ _ h _ => h) (ww_P.mp hP).1 ((ww_D.mp hD).1.weaken (fun _ _ _ _ => trivial)) hS hFc (fun q ce H locs z1 z2 z3 hP1 hD1 _ hk1 hS => ?_)
  obtain ⟨hP, hD⟩ := ww_f hP hD hFc hk1 hP1 hD1
  refine ct_tab (own := "StabilitySumsLaw") (E := "java/lang/IllegalArgumentException") (name := "java/lang/IllegalArgumentException") hown htab [] (0, 8, 11, 13) [] rfl (fun z hz => nomatch hz) (by decide) (by decide) (hts _ uw_438) (va_tabs rfl rfl (hX.2.1 (.castable "java/lang/IllegalArgumentException" "java/lang/IllegalArgumentException") (by decide))) z1 z2 z3 ?_
  refine lv_astore (lv' := [(4, .ref q), (0, .ref (ad 0)), (1, .long a0), (3, .ref o)]) hx hb de_A_shear_11 hl (by decide) rfl (fun ls hl => ?_)
  refine lv_iconst (v := 1) hx hb de_A_shear_13 (by decide) ?_
  subst hQ
  exact W.iret (v := 1) hx hb hr (fun t9 ht hW => ⟨⟨1, (), rfl, rfl, by rw [ht]; exact hP, va_K.moved hW.alike hK, hD⟩, hS.F ht⟩) hS.2.2 de_A_shear_14
set_option maxHeartbeats 4000000 in
set_option maxRecDepth 100000 in
theorem mt_A_bending (l : Launch) (hlt : l.stackTraces = false) (dC : Nat → ClassId) (dI : Nat → Nat → Nat) (ad : Nat → Nat) (T : Nat → ClassId) (o : Nat) (ob : Nat → Int64) (t : St) (a0 : Int64) (hI : Iv t) (hok : x_pl a0) (sz : Nat) : Met l yn_A_bending (.codeWith yn_A_bending cd_A_bending 5 (some .int) [(0, 8, 11, 13)] :: UW) ({ frames := 7, cells := 1, slots := 6, locals := 114 } : Room) (va_Pc [.ref (ad 0), .long a0, .ref o] (Px (dC, dI) CLS (TY T) (wA ad T t o ob) sz)) (va_Qi (fun (r : Int32) (_ : Unit) => r = 0) (Bw (dC, dI) CLS (TY T) (fun _ : Unit => (wA ad T (x_sg a0 t) o (vp_updL ob 0 (x_bend (x_sg a0 t) 0)))) (va_A (wA ad T t o ob) sz)) (va_A (wA ad T t o ob) sz)) 1 6 (va_A (wA ad T t o ob) sz) := by
  refine va_MetW (cc := cd_A_bending) (maxL := 5) (ret := some .int) (by decide) rfl ?_
  intro p e s m args below meth c s₁ B hml hv
  obtain ⟨rfl, ⟨hsz, hP, hK, hD0, hN⟩, hX⟩ := hv
  have hx := B.exec
  have hb := B.bytes
  have hr := B.returns
  have hts : ∀ w ∈ UW, w.before _ s = true := fun w h => atoms_spec (ws := .codeWith yn_A_bending cd_A_bending 5 (some .int) [(0, 8, 11, 13)] :: UW) B.pre w (List.mem_cons_of_mem _ h)
  have hown : s.vm.findClass "StabilitySumsLaw" = some m.cls := findClass_of_methodNamed B.named
  have hlocks := B.notSynchronized
  subst hsz
  have hD := hD0.self (sz := s.heap.size)
  generalize hAe : va_A (wA ad T t o ob) s.heap.size = A at hD ⊢
  have hA : ∀ q : Nat, s.heap.size ≤ q → A q := fun q h => by rw [← hAe]; exact Or.inr h
  have hS : va_S A s.heap s.heap [] := va_S.rf
  have hl := lv_entry ([.ref (ad 0), .long a0, .ref o]) (n := 5) (Nat.le_of_ble_eq_true rfl)
  rw [lg_entry_eq]
  generalize (lg_sl ([.ref (ad 0), .long a0, .ref o]) ++ List.replicate (5 - (lg_sl ([.ref (ad 0), .long a0, .ref o])).length) Slot.unset).toArray = ls at hl ⊢
  have hl : lv_has ls 5 [(0, .ref (ad 0)), (1, .long a0), (3, .ref o)] := hl
  generalize hQ : MQ below _ _ s 1 6 A = Q
  refine W.widen (k := 1) (n := 6) (Nat.zero_le _) (Nat.zero_le _) ?_
  refine lv_aload_n hx hb de_A_bending_0 rfl (lv_at hl 2 rfl) ?_
  refine lv_iconst (v := 0) hx hb de_A_bending_1 (by decide) ?_
  refine lv_aload_n hx hb de_A_bending_2 rfl (lv_at hl 0 rfl) ?_
  refine lv_lload_n hx hb de_A_bending_3 rfl (lv_at hl 1 rfl) ?_
  refine cf_Vl (As := [.long a0]) (rest := [.int 0, .ref o]) ⟨hx, hb, hml, hown, hts⟩ (mt_S_bending l dC dI ad T t a0 hI hok) (cwV 1 hts (uw_V uw_640 uw_641 uw_642 uw_27 uw_643) rfl rfl rfl (by decide +kernel) ⟨Nat.le_of_ble_eq_true rfl, Nat.le_of_ble_eq_true rfl⟩) (va_recv hK (ww_P.mp hP).1 (ci := 0) (q0 := 0) rfl rfl) rfl hl.1 rfl (Nat.le_of_ble_eq_true rfl) de_A_bending_4 ⟨Nat.le_refl _, Nat.le_refl _⟩ hK hN hP hD hS hA (fun r _ H locs hw hP hD hS => ?_)
  have hw : r = x_bend (x_sg a0 t) 0 := hw
  subst hw
  refine rw_last (f := ob) (j := 0) (x := (x_bend (x_sg a0 t) 0)) hx hb hK hP hD hS 33 0 rfl rfl (by decide) (by decide) de_A_bending_7 (fun H locs hP hD hS => ?_)
  have hP : va_P (dC, dI) CLS (wA ad T (x_sg a0 t) o (vp_updL ob 0 (x_bend (x_sg a0 t) 0))) H := hP
  have hD : va_D A (wA ad T (x_sg a0 t) o (vp_updL ob 0 (x_bend (x_sg a0 t) 0))) := hD
  refine lv_goto (tgt := 15) hx hb de_A_bending_8 (by decide) ?_
  refine lv_iconst (v := 0) hx hb de_A_bending_15 (by decide) ?_
  subst hQ
  exact W.iret (v := 0) hx hb hr (fun t9 ht hW => ⟨⟨0, (), rfl, rfl, by rw [ht]; exact hP, va_K.moved hW.alike hK, hD⟩, hS.F ht⟩) hS.2.2 de_A_bending_16
set_option maxHeartbeats 4000000 in
set_option maxRecDepth 100000 in
theorem mt_A_bending_1 (l : Launch) (hlt : l.stackTraces = false) (dC : Nat → ClassId) (dI : Nat → Nat → Nat) (ad : Nat → Nat) (T : Nat → ClassId) (o : Nat) (ob : Nat → Int64) (t : St) (a0 : Int64) (hI : Iv t) (hb9 : ¬ x_pl a0) (sz : Nat) : Met l yn_A_bending (.codeWith yn_A_bending cd_A_bending 5 (some .int) [(0, 8, 11, 13)] :: UW) ({ frames := 7, cells := 1, slots := 6, locals := 114 } : Room) (va_Pc [.ref (ad 0), .long a0, .ref o] (Px (dC, dI) CLS (TY T) (wA ad T t o ob) sz)) (va_Qi (fun (r : Int32) (_ : Unit) => r = 1) (Bw (dC, dI) CLS (TY T) (fun _ : Unit => (wA ad T t o ob)) (va_A (wA ad T t o ob) sz)) (va_A (wA ad T t o ob) sz)) 1 6 (va_A (wA ad T t o ob) sz) := by
  refine va_MetW (cc := cd_A_bending) (maxL := 5) (ret := some .int) (by decide) rfl ?_
  intro p e s m args below meth c s₁ B hml hv
  obtain ⟨rfl, ⟨hsz, hP, hK, hD0, hN⟩, hX⟩ := hv
  have hx := B.exec
  have hb := B.bytes
  have hr := B.returns
  have hts : ∀ w ∈ UW, w.before _ s = true := fun w h => atoms_spec (ws := .codeWith yn_A_bending cd_A_bending 5 (some .int) [(0, 8, 11, 13)] :: UW) B.pre w (List.mem_cons_of_mem _ h)
  have hown : s.vm.findClass "StabilitySumsLaw" = some m.cls := findClass_of_methodNamed B.named
  have hlocks := B.notSynchronized
  subst hsz
  have hD := hD0.self (sz := s.heap.size)
  generalize hAe : va_A (wA ad T t o ob) s.heap.size = A at hD ⊢
  have hA : ∀ q : Nat, s.heap.size ≤ q → A q := fun q h => by rw [← hAe]; exact Or.inr h
  have hS : va_S A s.heap s.heap [] := va_S.rf
  have hl := lv_entry ([.ref (ad 0), .long a0, .ref o]) (n := 5) (Nat.le_of_ble_eq_true rfl)
  rw [lg_entry_eq]
  generalize (lg_sl ([.ref (ad 0), .long a0, .ref o]) ++ List.replicate (5 - (lg_sl ([.ref (ad 0), .long a0, .ref o])).length) Slot.unset).toArray = ls at hl ⊢
  have hl : lv_has ls 5 [(0, .ref (ad 0)), (1, .long a0), (3, .ref o)] := hl
  generalize hQ : MQ below _ _ s 1 6 A = Q
  refine lv_aload_n hx hb de_A_bending_0 rfl (lv_at hl 2 rfl) ?_
  refine lv_iconst (v := 0) hx hb de_A_bending_1 (by decide) ?_
  refine lv_aload_n hx hb de_A_bending_2 rfl (lv_at hl 0 rfl) ?_
  refine lv_lload_n hx hb de_A_bending_3 rfl (lv_at hl 1 rfl) ?_
  obtain ⟨m9, meth9, c9, g1, g2, g3, -, -, htab, -⟩ := Cond.codeWith_spec (hts _ uw_639)
  cases B.named.symm.trans g1
  cases B.method.symm.trans g2
  cases (Stand.of_body B).code.symm.trans g3
  have hFc := cl_free (ww_D.mp hD).1 hS hA
  refine tc_V (As := [.long a0]) (rest := [.int 0, .ref o]) ⟨hx, hb, hml, hown, hts⟩ (mt_S_bending_1 l hlt dC dI ad T t a0 hI hb9) (cwV 1 hts (uw_V uw_640 uw_641 uw_642 uw_27 uw_643) rfl rfl rfl (by decide +kernel) ⟨Nat.le_of_ble_eq_true rfl, Nat.le_of_ble_eq_true rfl⟩) (va_recv hK (ww_P.mp hP).1 (ci := 0) (q0 := 0) rfl rfl) rfl hl.1 rfl (Nat.le_of_ble_eq_true rfl) de_A_bending_4 ⟨Nat.le_refl _, Nat.le_refl _⟩ hK hN hX (fun _ _ h _ => h) (ww_P.mp hP).1 ((ww_D.mp hD).1.weaken (fun _ _ _ _ => trivial)) hS hFc (fun q ce H locs z1 z2 z3 hP1 hD1 _ hk1 hS => ?_)
  obtain ⟨hP, hD⟩ := ww_f hP hD hFc hk1 hP1 hD1
  refine ct_tab (own := "StabilitySumsLaw") (E := "java/lang/IllegalArgumentException") (name := "java/lang/IllegalArgumentException") hown htab [] (0, 8, 11, 13) [] rfl (fun z hz => nomatch hz) (by decide) (by decide) (hts _ uw_438) (va_tabs rfl rfl (hX.2.1 (.castable "java/lang/IllegalArgumentException" "java/lang/IllegalArgumentException") (by decide))) z1 z2 z3 ?_
  refine lv_astore (lv' := [(4, .ref q), (0, .ref (ad 0)), (1, .long a0), (3, .ref o)]) hx hb de_A_bending_11 hl (by decide) rfl (fun ls hl => ?_)
  refine lv_iconst (v := 1) hx hb de_A_bending_13 (by decide) ?_
  subst hQ
  exact W.iret (v := 1) hx hb hr (fun t9 ht hW => ⟨⟨1, (), rfl, rfl, by rw [ht]; exact hP, va_K.moved hW.alike hK, hD⟩, hS.F ht⟩) hS.2.2 de_A_bending_14
set_option maxHeartbeats 4000000 in
set_option maxRecDepth 100000 in
theorem mt_A_limit (l : Launch) (hlt : l.stackTraces = false) (dC : Nat → ClassId) (dI : Nat → Nat → Nat) (ad : Nat → Nat) (T : Nat → ClassId) (o : Nat) (ob : Nat → Int64) (t : St) (a0 : Int32) (a1 : Int64) (a2 : Int64) (a3 : Int64) (hI : Iv t) (hok : okLx a0 a1 a2 a3) (hc : t.2.2.2 3 < 10) (sz : Nat) : Met l yn_A_limit (.codeWith yn_A_limit cd_A_limit 10 (some .int) [(0, 15, 18, 13), (0, 15, 22, 15)] :: UW) ({ frames := 7, cells := 1, slots := 6, locals := 118 } : Room) (va_Pc [.ref (ad 0), .int a0, .long a1, .long a2, .long a3, .ref o] (Px (dC, dI) CLS (TY T) (wA ad T t o ob) sz)) (va_Qi (fun (r : Int32) (_ : Unit) => r = 0) (Bw (dC, dI) CLS (TY T) (fun _ : Unit => (wA ad T (sL (x_lapp a0 a2 a3 t) 18 (t.2.2.2 3 + 1) a1) o (vp_updL ob 0 ((nI (t.2.2.2 3 + 1) : Int32).toInt64)))) (va_A (wA ad T t o ob) sz)) (va_A (wA ad T t o ob) sz)) 1 6 (va_A (wA ad T t o ob) sz) := by
  refine va_MetW (cc := cd_A_limit) (maxL := 10) (ret := some .int) (by decide) rfl ?_
  intro p e s m args below meth c s₁ B hml hv
  obtain ⟨rfl, ⟨hsz, hP, hK, hD0, hN⟩, hX⟩ := hv
  have hx := B.exec
  have hb := B.bytes
  have hr := B.returns
  have hts : ∀ w ∈ UW, w.before _ s = true := fun w h => atoms_spec (ws := .codeWith yn_A_limit cd_A_limit 10 (some .int) [(0, 15, 18, 13), (0, 15, 22, 15)] :: UW) B.pre w (List.mem_cons_of_mem _ h)
  have hown : s.vm.findClass "StabilitySumsLaw" = some m.cls := findClass_of_methodNamed B.named
  have hlocks := B.notSynchronized
  subst hsz
  have hD := hD0.self (sz := s.heap.size)
  generalize hAe : va_A (wA ad T t o ob) s.heap.size = A at hD ⊢
  have hA : ∀ q : Nat, s.heap.size ≤ q → A q := fun q h => by rw [← hAe]; exact Or.inr h
  have hS : va_S A s.heap s.heap [] := va_S.rf
  have hl := lv_entry ([.ref (ad 0), .int a0, .long a1, .long a2, .long a3, .ref o]) (n := 10) (Nat.le_of_ble_eq_true rfl)
  rw [lg_entry_eq]
  generalize (lg_sl ([.ref (ad 0), .int a0, .long a1, .long a2, .long a3, .ref o]) ++ List.replicate (10 - (lg_sl ([.ref (ad 0), .int a0, .long a1, .long a2, .long a3, .ref o])).length) Slot.unset).toArray = ls at hl ⊢
  have hl : lv_has ls 10 [(0, .ref (ad 0)), (1, .int a0), (2, .long a1), (4, .long a2), (6, .long a3), (8, .ref o)] := hl
  generalize hQ : MQ below _ _ s 1 6 A = Q
  refine W.widen (k := 1) (n := 6) (Nat.zero_le _) (Nat.zero_le _) ?_
  refine lv_aload hx hb de_A_limit_0 (lv_at hl 5 rfl) ?_
  refine lv_iconst (v := 0) hx hb de_A_limit_2 (by decide) ?_
  refine lv_aload_n hx hb de_A_limit_3 rfl (lv_at hl 0 rfl) ?_
  refine lv_iload_n hx hb de_A_limit_4 rfl (lv_at hl 1 rfl) ?_
  refine lv_lload_n hx hb de_A_limit_5 rfl (lv_at hl 2 rfl) ?_
  refine lv_lload hx hb de_A_limit_6 (lv_at hl 3 rfl) ?_
  refine lv_lload hx hb de_A_limit_8 (lv_at hl 4 rfl) ?_
  refine cf_Vi (As := [.int a0, .long a1, .long a2, .long a3]) (rest := [.int 0, .ref o]) ⟨hx, hb, hml, hown, hts⟩ (mt_S_limit l dC dI ad T t a0 a1 a2 a3 hI hok hc) (cwV 4 hts (uw_V uw_647 uw_648 uw_649 uw_27 uw_650) rfl rfl rfl (by decide +kernel) ⟨Nat.le_of_ble_eq_true rfl, Nat.le_of_ble_eq_true rfl⟩) (va_recv hK (ww_P.mp hP).1 (ci := 0) (q0 := 0) rfl rfl) rfl hl.1 rfl (Nat.le_of_ble_eq_true rfl) de_A_limit_10 ⟨Nat.le_refl _, Nat.le_refl _⟩ hK hN hP hD hS hA (fun r _ H locs hw hP hD hS => ?_)
  have hw : r = nI (t.2.2.2 3 + 1) := hw
  subst hw
  refine lv_i2l (v := (nI (t.2.2.2 3 + 1) : Int32).toInt64) hx hb de_A_limit_13 rfl ?_
  refine rw_last (f := ob) (j := 0) (x := ((nI (t.2.2.2 3 + 1) : Int32).toInt64)) hx hb hK hP hD hS 33 0 rfl rfl (by decide) (by decide) de_A_limit_14 (fun H locs hP hD hS => ?_)
  have hP : va_P (dC, dI) CLS (wA ad T (sL (x_lapp a0 a2 a3 t) 18 (t.2.2.2 3 + 1) a1) o (vp_updL ob 0 ((nI (t.2.2.2 3 + 1) : Int32).toInt64))) H := hP
  have hD : va_D A (wA ad T (sL (x_lapp a0 a2 a3 t) 18 (t.2.2.2 3 + 1) a1) o (vp_updL ob 0 ((nI (t.2.2.2 3 + 1) : Int32).toInt64))) := hD
  refine lv_goto (tgt := 26) hx hb de_A_limit_15 (by decide) ?_
  refine lv_iconst (v := 0) hx hb de_A_limit_26 (by decide) ?_
  subst hQ
  exact W.iret (v := 0) hx hb hr (fun t9 ht hW => ⟨⟨0, (), rfl, rfl, by rw [ht]; exact hP, va_K.moved hW.alike hK, hD⟩, hS.F ht⟩) hS.2.2 de_A_limit_27
set_option maxHeartbeats 4000000 in
set_option maxRecDepth 100000 in
theorem mt_A_limit_1 (l : Launch) (hlt : l.stackTraces = false) (dC : Nat → ClassId) (dI : Nat → Nat → Nat) (ad : Nat → Nat) (T : Nat → ClassId) (o : Nat) (ob : Nat → Int64) (t : St) (a0 : Int32) (a1 : Int64) (a2 : Int64) (a3 : Int64) (hI : Iv t) (hb9 : ¬ okLx a0 a1 a2 a3) (sz : Nat) : Met l yn_A_limit (.codeWith yn_A_limit cd_A_limit 10 (some .int) [(0, 15, 18, 13), (0, 15, 22, 15)] :: UW) ({ frames := 7, cells := 1, slots := 6, locals := 118 } : Room) (va_Pc [.ref (ad 0), .int a0, .long a1, .long a2, .long a3, .ref o] (Px (dC, dI) CLS (TY T) (wA ad T t o ob) sz)) (va_Qi (fun (r : Int32) (_ : Unit) => r = 1) (Bw (dC, dI) CLS (TY T) (fun _ : Unit => (wA ad T t o ob)) (va_A (wA ad T t o ob) sz)) (va_A (wA ad T t o ob) sz)) 1 6 (va_A (wA ad T t o ob) sz) := by
  refine va_MetW (cc := cd_A_limit) (maxL := 10) (ret := some .int) (by decide) rfl ?_
  intro p e s m args below meth c s₁ B hml hv
  obtain ⟨rfl, ⟨hsz, hP, hK, hD0, hN⟩, hX⟩ := hv
  have hx := B.exec
  have hb := B.bytes
  have hr := B.returns
  have hts : ∀ w ∈ UW, w.before _ s = true := fun w h => atoms_spec (ws := .codeWith yn_A_limit cd_A_limit 10 (some .int) [(0, 15, 18, 13), (0, 15, 22, 15)] :: UW) B.pre w (List.mem_cons_of_mem _ h)
  have hown : s.vm.findClass "StabilitySumsLaw" = some m.cls := findClass_of_methodNamed B.named
  have hlocks := B.notSynchronized
  subst hsz
  have hD := hD0.self (sz := s.heap.size)
  generalize hAe : va_A (wA ad T t o ob) s.heap.size = A at hD ⊢
  have hA : ∀ q : Nat, s.heap.size ≤ q → A q := fun q h => by rw [← hAe]; exact Or.inr h
  have hS : va_S A s.heap s.heap [] := va_S.rf
  have hl := lv_entry ([.ref (ad 0), .int a0, .long a1, .long a2, .long a3, .ref o]) (n := 10) (Nat.le_of_ble_eq_true rfl)
  rw [lg_entry_eq]
  generalize (lg_sl ([.ref (ad 0), .int a0, .long a1, .long a2, .long a3, .ref o]) ++ List.replicate (10 - (lg_sl ([.ref (ad 0), .int a0, .long a1, .long a2, .long a3, .ref o])).length) Slot.unset).toArray = ls at hl ⊢
  have hl : lv_has ls 10 [(0, .ref (ad 0)), (1, .int a0), (2, .long a1), (4, .long a2), (6, .long a3), (8, .ref o)] := hl
  generalize hQ : MQ below _ _ s 1 6 A = Q
  refine lv_aload hx hb de_A_limit_0 (lv_at hl 5 rfl) ?_
  refine lv_iconst (v := 0) hx hb de_A_limit_2 (by decide) ?_
  refine lv_aload_n hx hb de_A_limit_3 rfl (lv_at hl 0 rfl) ?_
  refine lv_iload_n hx hb de_A_limit_4 rfl (lv_at hl 1 rfl) ?_
  refine lv_lload_n hx hb de_A_limit_5 rfl (lv_at hl 2 rfl) ?_
  refine lv_lload hx hb de_A_limit_6 (lv_at hl 3 rfl) ?_
  refine lv_lload hx hb de_A_limit_8 (lv_at hl 4 rfl) ?_
  obtain ⟨m9, meth9, c9, g1, g2, g3, -, -, htab, -⟩ := Cond.codeWith_spec (hts _ uw_646)
  cases B.named.symm.trans g1
  cases B.method.symm.trans g2
  cases (Stand.of_body B).code.symm.trans g3
  have hFc := cl_free (ww_D.mp hD).1 hS hA
  refine tc_V (As := [.int a0, .long a1, .long a2, .long a3]) (rest := [.int 0, .ref o]) ⟨hx, hb, hml, hown, hts⟩ (mt_S_limit_1 l hlt dC dI ad T t a0 a1 a2 a3 hI hb9) (cwV 4 hts (uw_V uw_647 uw_648 uw_649 uw_27 uw_650) rfl rfl rfl (by decide +kernel) ⟨Nat.le_of_ble_eq_true rfl, Nat.le_of_ble_eq_true rfl⟩) (va_recv hK (ww_P.mp hP).1 (ci := 0) (q0 := 0) rfl rfl) rfl hl.1 rfl (Nat.le_of_ble_eq_true rfl) de_A_limit_10 ⟨Nat.le_refl _, Nat.le_refl _⟩ hK hN hX (fun _ _ h _ => h) (ww_P.mp hP).1 ((ww_D.mp hD).1.weaken (fun _ _ _ _ => trivial)) hS hFc (fun q ce H locs z1 z2 z3 hP1 hD1 _ hk1 hS => ?_)
  obtain ⟨hP, hD⟩ := ww_f hP hD hFc hk1 hP1 hD1
  refine ct_tab (own := "StabilitySumsLaw") (E := "java/lang/IllegalArgumentException") (name := "java/lang/IllegalArgumentException") hown htab [] (0, 15, 18, 13) [(0, 15, 22, 15)] rfl (fun z hz => nomatch hz) (by decide) (by decide) (hts _ uw_438) (va_tabs rfl rfl (hX.2.1 (.castable "java/lang/IllegalArgumentException" "java/lang/IllegalArgumentException") (by decide))) z1 z2 z3 ?_
  refine lv_astore (lv' := [(9, .ref q), (0, .ref (ad 0)), (1, .int a0), (2, .long a1), (4, .long a2), (6, .long a3), (8, .ref o)]) hx hb de_A_limit_18 hl (by decide) rfl (fun ls hl => ?_)
  refine lv_iconst (v := 1) hx hb de_A_limit_20 (by decide) ?_
  subst hQ
  exact W.iret (v := 1) hx hb hr (fun t9 ht hW => ⟨⟨1, (), rfl, rfl, by rw [ht]; exact hP, va_K.moved hW.alike hK, hD⟩, hS.F ht⟩) hS.2.2 de_A_limit_21
set_option maxHeartbeats 4000000 in
set_option maxRecDepth 100000 in
theorem mt_A_limit_2 (l : Launch) (hlt : l.stackTraces = false) (dC : Nat → ClassId) (dI : Nat → Nat → Nat) (ad : Nat → Nat) (T : Nat → ClassId) (o : Nat) (ob : Nat → Int64) (t : St) (a0 : Int32) (a1 : Int64) (a2 : Int64) (a3 : Int64) (hI : Iv t) (hok : okLx a0 a1 a2 a3) (hc : ¬ t.2.2.2 3 < 10) (sz : Nat) : Met l yn_A_limit (.codeWith yn_A_limit cd_A_limit 10 (some .int) [(0, 15, 18, 13), (0, 15, 22, 15)] :: UW) ({ frames := 7, cells := 1, slots := 6, locals := 118 } : Room) (va_Pc [.ref (ad 0), .int a0, .long a1, .long a2, .long a3, .ref o] (Px (dC, dI) CLS (TY T) (wA ad T t o ob) sz)) (va_Qi (fun (r : Int32) (_ : Unit) => r = 2) (Bw (dC, dI) CLS (TY T) (fun _ : Unit => (wA ad T t o ob)) (va_A (wA ad T t o ob) sz)) (va_A (wA ad T t o ob) sz)) 1 6 (va_A (wA ad T t o ob) sz) := by
  refine va_MetW (cc := cd_A_limit) (maxL := 10) (ret := some .int) (by decide) rfl ?_
  intro p e s m args below meth c s₁ B hml hv
  obtain ⟨rfl, ⟨hsz, hP, hK, hD0, hN⟩, hX⟩ := hv
  have hx := B.exec
  have hb := B.bytes
  have hr := B.returns
  have hts : ∀ w ∈ UW, w.before _ s = true := fun w h => atoms_spec (ws := .codeWith yn_A_limit cd_A_limit 10 (some .int) [(0, 15, 18, 13), (0, 15, 22, 15)] :: UW) B.pre w (List.mem_cons_of_mem _ h)
  have hown : s.vm.findClass "StabilitySumsLaw" = some m.cls := findClass_of_methodNamed B.named
  have hlocks := B.notSynchronized
  subst hsz
  have hD := hD0.self (sz := s.heap.size)
  generalize hAe : va_A (wA ad T t o ob) s.heap.size = A at hD ⊢
  have hA : ∀ q : Nat, s.heap.size ≤ q → A q := fun q h => by rw [← hAe]; exact Or.inr h
  have hS : va_S A s.heap s.heap [] := va_S.rf
  have hl := lv_entry ([.ref (ad 0), .int a0, .long a1, .long a2, .long a3, .ref o]) (n := 10) (Nat.le_of_ble_eq_true rfl)
  rw [lg_entry_eq]
  generalize (lg_sl ([.ref (ad 0), .int a0, .long a1, .long a2, .long a3, .ref o]) ++ List.replicate (10 - (lg_sl ([.ref (ad 0), .int a0, .long a1, .long a2, .long a3, .ref o])).length) Slot.unset).toArray = ls at hl ⊢
  have hl : lv_has ls 10 [(0, .ref (ad 0)), (1, .int a0), (2, .long a1), (4, .long a2), (6, .long a3), (8, .ref o)] := hl
  generalize hQ : MQ below _ _ s 1 6 A = Q
  refine lv_aload hx hb de_A_limit_0 (lv_at hl 5 rfl) ?_
  refine lv_iconst (v := 0) hx hb de_A_limit_2 (by decide) ?_
  refine lv_aload_n hx hb de_A_limit_3 rfl (lv_at hl 0 rfl) ?_
  refine lv_iload_n hx hb de_A_limit_4 rfl (lv_at hl 1 rfl) ?_
  refine lv_lload_n hx hb de_A_limit_5 rfl (lv_at hl 2 rfl) ?_
  refine lv_lload hx hb de_A_limit_6 (lv_at hl 3 rfl) ?_
  refine lv_lload hx hb de_A_limit_8 (lv_at hl 4 rfl) ?_
  obtain ⟨m9, meth9, c9, g1, g2, g3, -, -, htab, -⟩ := Cond.codeWith_spec (hts _ uw_646)
  cases B.named.symm.trans g1
  cases B.method.symm.trans g2
  cases (Stand.of_body B).code.symm.trans g3
  have hFc := cl_free (ww_D.mp hD).1 hS hA
  refine tc_V (As := [.int a0, .long a1, .long a2, .long a3]) (rest := [.int 0, .ref o]) ⟨hx, hb, hml, hown, hts⟩ (mt_S_limit_2 l hlt dC dI ad T t a0 a1 a2 a3 hI hok hc) (cwV 4 hts (uw_V uw_647 uw_648 uw_649 uw_27 uw_650) rfl rfl rfl (by decide +kernel) ⟨Nat.le_of_ble_eq_true rfl, Nat.le_of_ble_eq_true rfl⟩) (va_recv hK (ww_P.mp hP).1 (ci := 0) (q0 := 0) rfl rfl) rfl hl.1 rfl (Nat.le_of_ble_eq_true rfl) de_A_limit_10 ⟨Nat.le_refl _, Nat.le_refl _⟩ hK hN hX (fun _ _ h _ => h) (ww_P.mp hP).1 ((ww_D.mp hD).1.weaken (fun _ _ _ _ => trivial)) hS hFc (fun q ce H locs z1 z2 z3 hP1 hD1 _ hk1 hS => ?_)
  obtain ⟨hP, hD⟩ := ww_f hP hD hFc hk1 hP1 hD1
  refine ct_tab (own := "StabilitySumsLaw") (E := "java/lang/IllegalStateException") (name := "java/lang/IllegalStateException") hown htab [(0, 15, 18, 13)] (0, 15, 22, 15) [] rfl (fun z hz => by
    simp only [List.mem_cons, List.not_mem_nil, or_false] at hz
    rcases hz with rfl
    · exact ⟨by decide, "java/lang/IllegalArgumentException", hts _ uw_438, hX.2.2.2 ("java/lang/IllegalStateException", "java/lang/IllegalArgumentException") (by decide)⟩) (by decide) (by decide) (hts _ uw_439) (va_tabs rfl rfl (hX.2.1 (.castable "java/lang/IllegalStateException" "java/lang/IllegalStateException") (by decide))) z1 z2 z3 ?_
  refine lv_astore (lv' := [(9, .ref q), (0, .ref (ad 0)), (1, .int a0), (2, .long a1), (4, .long a2), (6, .long a3), (8, .ref o)]) hx hb de_A_limit_22 hl (by decide) rfl (fun ls hl => ?_)
  refine lv_iconst (v := 2) hx hb de_A_limit_24 (by decide) ?_
  subst hQ
  exact W.iret (v := 2) hx hb hr (fun t9 ht hW => ⟨⟨2, (), rfl, rfl, by rw [ht]; exact hP, va_K.moved hW.alike hK, hD⟩, hS.F ht⟩) hS.2.2 de_A_limit_25
set_option maxHeartbeats 4000000 in
set_option maxRecDepth 100000 in
theorem mt_A_fill (l : Launch) (hlt : l.stackTraces = false) (dC : Nat → ClassId) (dI : Nat → Nat → Nat) (ad : Nat → Nat) (T : Nat → ClassId) (o : Nat) (ob : Nat → Int64) (t : St) (a0 : Int32) (hI : Iv t) (hok : x_th a0 (t.2.2.2 1)) (sz : Nat) : Met l yn_A_fill (.codeWith yn_A_fill cd_A_fill 4 (some .int) [(0, 8, 11, 25)] :: UW) ({ frames := 7, cells := 1, slots := 6, locals := 170 } : Room) (va_Pc [.ref (ad 0), .int a0, .ref o] (Px (dC, dI) CLS (TY T) (wA ad T t o ob) sz)) (va_Qi (fun (r : Int32) (_ : Unit) => r = 0) (Bw (dC, dI) CLS (TY T) (fun _ : Unit => (wA ad T ((x_pump t).2) o (vp_updL ob 0 (x_fv a0 t)))) (va_A (wA ad T t o ob) sz)) (va_A (wA ad T t o ob) sz)) 1 6 (va_A (wA ad T t o ob) sz) := by
  refine va_MetW (cc := cd_A_fill) (maxL := 4) (ret := some .int) (by decide) rfl ?_
  intro p e s m args below meth c s₁ B hml hv
  obtain ⟨rfl, ⟨hsz, hP, hK, hD0, hN⟩, hX⟩ := hv
  have hx := B.exec
  have hb := B.bytes
  have hr := B.returns
  have hts : ∀ w ∈ UW, w.before _ s = true := fun w h => atoms_spec (ws := .codeWith yn_A_fill cd_A_fill 4 (some .int) [(0, 8, 11, 25)] :: UW) B.pre w (List.mem_cons_of_mem _ h)
  have hown : s.vm.findClass "StabilitySumsLaw" = some m.cls := findClass_of_methodNamed B.named
  have hlocks := B.notSynchronized
  subst hsz
  have hD := hD0.self (sz := s.heap.size)
  generalize hAe : va_A (wA ad T t o ob) s.heap.size = A at hD ⊢
  have hA : ∀ q : Nat, s.heap.size ≤ q → A q := fun q h => by rw [← hAe]; exact Or.inr h
  have hS : va_S A s.heap s.heap [] := va_S.rf
  have hl := lv_entry ([.ref (ad 0), .int a0, .ref o]) (n := 4) (Nat.le_of_ble_eq_true rfl)
  rw [lg_entry_eq]
  generalize (lg_sl ([.ref (ad 0), .int a0, .ref o]) ++ List.replicate (4 - (lg_sl ([.ref (ad 0), .int a0, .ref o])).length) Slot.unset).toArray = ls at hl ⊢
  have hl : lv_has ls 4 [(0, .ref (ad 0)), (1, .int a0), (2, .ref o)] := hl
  generalize hQ : MQ below _ _ s 1 6 A = Q
  refine W.widen (k := 1) (n := 6) (Nat.zero_le _) (Nat.zero_le _) ?_
  refine lv_aload_n hx hb de_A_fill_0 rfl (lv_at hl 2 rfl) ?_
  refine lv_iconst (v := 0) hx hb de_A_fill_1 (by decide) ?_
  refine lv_aload_n hx hb de_A_fill_2 rfl (lv_at hl 0 rfl) ?_
  refine lv_iload_n hx hb de_A_fill_3 rfl (lv_at hl 1 rfl) ?_
  refine cf_Vl (As := [.int a0]) (rest := [.int 0, .ref o]) ⟨hx, hb, hml, hown, hts⟩ (mt_S_fill l dC dI ad T t a0 hI hok) (cwV 1 hts (uw_V uw_663 uw_664 uw_665 uw_27 uw_666) rfl rfl rfl (by decide +kernel) ⟨Nat.le_of_ble_eq_true rfl, Nat.le_of_ble_eq_true rfl⟩) (va_recv hK (ww_P.mp hP).1 (ci := 0) (q0 := 0) rfl rfl) rfl hl.1 rfl (Nat.le_of_ble_eq_true rfl) de_A_fill_4 ⟨Nat.le_refl _, Nat.le_refl _⟩ hK hN hP hD hS hA (fun r _ H locs hw hP hD hS => ?_)
  have hw : r = x_fv a0 t := hw
  subst hw
  refine rw_last (f := ob) (j := 0) (x := (x_fv a0 t)) hx hb hK hP hD hS 33 0 rfl rfl (by decide) (by decide) de_A_fill_7 (fun H locs hP hD hS => ?_)
  have hP : va_P (dC, dI) CLS (wA ad T ((x_pump t).2) o (vp_updL ob 0 (x_fv a0 t))) H := hP
  have hD : va_D A (wA ad T ((x_pump t).2) o (vp_updL ob 0 (x_fv a0 t))) := hD
  refine lv_goto (tgt := 14) hx hb de_A_fill_8 (by decide) ?_
  refine lv_iconst (v := 0) hx hb de_A_fill_14 (by decide) ?_
  subst hQ
  exact W.iret (v := 0) hx hb hr (fun t9 ht hW => ⟨⟨0, (), rfl, rfl, by rw [ht]; exact hP, va_K.moved hW.alike hK, hD⟩, hS.F ht⟩) hS.2.2 de_A_fill_15
set_option maxHeartbeats 4000000 in
set_option maxRecDepth 100000 in
theorem mt_A_fill_1 (l : Launch) (hlt : l.stackTraces = false) (dC : Nat → ClassId) (dI : Nat → Nat → Nat) (ad : Nat → Nat) (T : Nat → ClassId) (o : Nat) (ob : Nat → Int64) (t : St) (a0 : Int32) (hI : Iv t) (hb9 : ¬ x_th a0 (t.2.2.2 1)) (sz : Nat) : Met l yn_A_fill (.codeWith yn_A_fill cd_A_fill 4 (some .int) [(0, 8, 11, 25)] :: UW) ({ frames := 7, cells := 1, slots := 6, locals := 170 } : Room) (va_Pc [.ref (ad 0), .int a0, .ref o] (Px (dC, dI) CLS (TY T) (wA ad T t o ob) sz)) (va_Qi (fun (r : Int32) (_ : Unit) => r = 1) (Bw (dC, dI) CLS (TY T) (fun _ : Unit => (wA ad T t o ob)) (va_A (wA ad T t o ob) sz)) (va_A (wA ad T t o ob) sz)) 1 6 (va_A (wA ad T t o ob) sz) := by
  refine va_MetW (cc := cd_A_fill) (maxL := 4) (ret := some .int) (by decide) rfl ?_
  intro p e s m args below meth c s₁ B hml hv
  obtain ⟨rfl, ⟨hsz, hP, hK, hD0, hN⟩, hX⟩ := hv
  have hx := B.exec
  have hb := B.bytes
  have hr := B.returns
  have hts : ∀ w ∈ UW, w.before _ s = true := fun w h => atoms_spec (ws := .codeWith yn_A_fill cd_A_fill 4 (some .int) [(0, 8, 11, 25)] :: UW) B.pre w (List.mem_cons_of_mem _ h)
  have hown : s.vm.findClass "StabilitySumsLaw" = some m.cls := findClass_of_methodNamed B.named
  have hlocks := B.notSynchronized
  subst hsz
  have hD := hD0.self (sz := s.heap.size)
  generalize hAe : va_A (wA ad T t o ob) s.heap.size = A at hD ⊢
  have hA : ∀ q : Nat, s.heap.size ≤ q → A q := fun q h => by rw [← hAe]; exact Or.inr h
  have hS : va_S A s.heap s.heap [] := va_S.rf
  have hl := lv_entry ([.ref (ad 0), .int a0, .ref o]) (n := 4) (Nat.le_of_ble_eq_true rfl)
  rw [lg_entry_eq]
  generalize (lg_sl ([.ref (ad 0), .int a0, .ref o]) ++ List.replicate (4 - (lg_sl ([.ref (ad 0), .int a0, .ref o])).length) Slot.unset).toArray = ls at hl ⊢
  have hl : lv_has ls 4 [(0, .ref (ad 0)), (1, .int a0), (2, .ref o)] := hl
  generalize hQ : MQ below _ _ s 1 6 A = Q
  refine lv_aload_n hx hb de_A_fill_0 rfl (lv_at hl 2 rfl) ?_
  refine lv_iconst (v := 0) hx hb de_A_fill_1 (by decide) ?_
  refine lv_aload_n hx hb de_A_fill_2 rfl (lv_at hl 0 rfl) ?_
  refine lv_iload_n hx hb de_A_fill_3 rfl (lv_at hl 1 rfl) ?_
  obtain ⟨m9, meth9, c9, g1, g2, g3, -, -, htab, -⟩ := Cond.codeWith_spec (hts _ uw_662)
  cases B.named.symm.trans g1
  cases B.method.symm.trans g2
  cases (Stand.of_body B).code.symm.trans g3
  have hFc := cl_free (ww_D.mp hD).1 hS hA
  refine tc_V (As := [.int a0]) (rest := [.int 0, .ref o]) ⟨hx, hb, hml, hown, hts⟩ (mt_S_fill_1 l hlt dC dI ad T t a0 hI hb9) (cwV 1 hts (uw_V uw_663 uw_664 uw_665 uw_27 uw_666) rfl rfl rfl (by decide +kernel) ⟨Nat.le_of_ble_eq_true rfl, Nat.le_of_ble_eq_true rfl⟩) (va_recv hK (ww_P.mp hP).1 (ci := 0) (q0 := 0) rfl rfl) rfl hl.1 rfl (Nat.le_of_ble_eq_true rfl) de_A_fill_4 ⟨Nat.le_refl _, Nat.le_refl _⟩ hK hN hX (fun _ _ h _ => h) (ww_P.mp hP).1 ((ww_D.mp hD).1.weaken (fun _ _ _ _ => trivial)) hS hFc (fun q ce H locs z1 z2 z3 hP1 hD1 _ hk1 hS => ?_)
  obtain ⟨hP, hD⟩ := ww_f hP hD hFc hk1 hP1 hD1
  refine ct_tab (own := "StabilitySumsLaw") (E := "java/lang/IndexOutOfBoundsException") (name := "java/lang/IndexOutOfBoundsException") hown htab [] (0, 8, 11, 25) [] rfl (fun z hz => nomatch hz) (by decide) (by decide) (hts _ uw_556) (va_tabs rfl rfl (hX.2.1 (.castable "java/lang/IndexOutOfBoundsException" "java/lang/IndexOutOfBoundsException") (by decide))) z1 z2 z3 ?_
  refine lv_astore_n (lv' := [(3, .ref q), (0, .ref (ad 0)), (1, .int a0), (2, .ref o)]) hx hb de_A_fill_11 rfl hl (by decide) rfl (fun ls hl => ?_)
  refine lv_iconst (v := 1) hx hb de_A_fill_12 (by decide) ?_
  subst hQ
  exact W.iret (v := 1) hx hb hr (fun t9 ht hW => ⟨⟨1, (), rfl, rfl, by rw [ht]; exact hP, va_K.moved hW.alike hK, hD⟩, hS.F ht⟩) hS.2.2 de_A_fill_13
set_option maxHeartbeats 4000000 in
set_option maxRecDepth 100000 in
theorem mt_A_plan (l : Launch) (hlt : l.stackTraces = false) (dC : Nat → ClassId) (dI : Nat → Nat → Nat) (ad : Nat → Nat) (T : Nat → ClassId) (o : Nat) (ob : Nat → Int64) (t : St) (a0 : Int32) (a1 : Int32) (a2 : Int64) (hI : Iv t) (hok : x_th a1 (x_pn a0 t)) (hk9 : x_pk a0 a1 a2 t) (hc : t.2.2.2 4 < 20) (sz : Nat) : Met l yn_A_plan (.codeWith yn_A_plan cd_A_plan 7 (some .int) [(0, 12, 15, 25), (0, 12, 19, 13), (0, 12, 23, 15)] :: UW) ({ frames := 7, cells := 1, slots := 6, locals := 119 } : Room) (va_Pc [.ref (ad 0), .int a0, .int a1, .long a2, .ref o] (Px (dC, dI) CLS (TY T) (wA ad T t o ob) sz)) (va_Qi (fun (r : Int32) (_ : Unit) => r = 0) (Bw (dC, dI) CLS (TY T) (fun _ : Unit => (wA ad T (x_eapp a0 a1 a2 t) o (vp_updL ob 0 ((nI (t.2.2.2 4) : Int32).toInt64)))) (va_A (wA ad T t o ob) sz)) (va_A (wA ad T t o ob) sz)) 1 6 (va_A (wA ad T t o ob) sz) := by
  refine va_MetW (cc := cd_A_plan) (maxL := 7) (ret := some .int) (by decide) rfl ?_
  intro p e s m args below meth c s₁ B hml hv
  obtain ⟨rfl, ⟨hsz, hP, hK, hD0, hN⟩, hX⟩ := hv
  have hx := B.exec
  have hb := B.bytes
  have hr := B.returns
  have hts : ∀ w ∈ UW, w.before _ s = true := fun w h => atoms_spec (ws := .codeWith yn_A_plan cd_A_plan 7 (some .int) [(0, 12, 15, 25), (0, 12, 19, 13), (0, 12, 23, 15)] :: UW) B.pre w (List.mem_cons_of_mem _ h)
  have hown : s.vm.findClass "StabilitySumsLaw" = some m.cls := findClass_of_methodNamed B.named
  have hlocks := B.notSynchronized
  subst hsz
  have hD := hD0.self (sz := s.heap.size)
  generalize hAe : va_A (wA ad T t o ob) s.heap.size = A at hD ⊢
  have hA : ∀ q : Nat, s.heap.size ≤ q → A q := fun q h => by rw [← hAe]; exact Or.inr h
  have hS : va_S A s.heap s.heap [] := va_S.rf
  have hl := lv_entry ([.ref (ad 0), .int a0, .int a1, .long a2, .ref o]) (n := 7) (Nat.le_of_ble_eq_true rfl)
  rw [lg_entry_eq]
  generalize (lg_sl ([.ref (ad 0), .int a0, .int a1, .long a2, .ref o]) ++ List.replicate (7 - (lg_sl ([.ref (ad 0), .int a0, .int a1, .long a2, .ref o])).length) Slot.unset).toArray = ls at hl ⊢
  have hl : lv_has ls 7 [(0, .ref (ad 0)), (1, .int a0), (2, .int a1), (3, .long a2), (5, .ref o)] := hl
  generalize hQ : MQ below _ _ s 1 6 A = Q
  refine W.widen (k := 1) (n := 6) (Nat.zero_le _) (Nat.zero_le _) ?_
  refine lv_aload hx hb de_A_plan_0 (lv_at hl 4 rfl) ?_
  refine lv_iconst (v := 0) hx hb de_A_plan_2 (by decide) ?_
  refine lv_aload_n hx hb de_A_plan_3 rfl (lv_at hl 0 rfl) ?_
  refine lv_iload_n hx hb de_A_plan_4 rfl (lv_at hl 1 rfl) ?_
  refine lv_iload_n hx hb de_A_plan_5 rfl (lv_at hl 2 rfl) ?_
  refine lv_lload_n hx hb de_A_plan_6 rfl (lv_at hl 3 rfl) ?_
  refine cf_Vi (As := [.int a0, .int a1, .long a2]) (rest := [.int 0, .ref o]) ⟨hx, hb, hml, hown, hts⟩ (mt_S_plan l dC dI ad T t a0 a1 a2 hI hok hk9 hc) (cwV 3 hts (uw_V uw_670 uw_671 uw_672 uw_27 uw_673) rfl rfl rfl (by decide +kernel) ⟨Nat.le_of_ble_eq_true rfl, Nat.le_of_ble_eq_true rfl⟩) (va_recv hK (ww_P.mp hP).1 (ci := 0) (q0 := 0) rfl rfl) rfl hl.1 rfl (Nat.le_of_ble_eq_true rfl) de_A_plan_7 ⟨Nat.le_refl _, Nat.le_refl _⟩ hK hN hP hD hS hA (fun r _ H locs hw hP hD hS => ?_)
  have hw : r = nI (t.2.2.2 4) := hw
  subst hw
  refine lv_i2l (v := (nI (t.2.2.2 4) : Int32).toInt64) hx hb de_A_plan_10 rfl ?_
  refine rw_last (f := ob) (j := 0) (x := ((nI (t.2.2.2 4) : Int32).toInt64)) hx hb hK hP hD hS 33 0 rfl rfl (by decide) (by decide) de_A_plan_11 (fun H locs hP hD hS => ?_)
  have hP : va_P (dC, dI) CLS (wA ad T (x_eapp a0 a1 a2 t) o (vp_updL ob 0 ((nI (t.2.2.2 4) : Int32).toInt64))) H := hP
  have hD : va_D A (wA ad T (x_eapp a0 a1 a2 t) o (vp_updL ob 0 ((nI (t.2.2.2 4) : Int32).toInt64))) := hD
  refine lv_goto (tgt := 27) hx hb de_A_plan_12 (by decide) ?_
  refine lv_iconst (v := 0) hx hb de_A_plan_27 (by decide) ?_
  subst hQ
  exact W.iret (v := 0) hx hb hr (fun t9 ht hW => ⟨⟨0, (), rfl, rfl, by rw [ht]; exact hP, va_K.moved hW.alike hK, hD⟩, hS.F ht⟩) hS.2.2 de_A_plan_28
set_option maxHeartbeats 4000000 in
set_option maxRecDepth 100000 in
theorem mt_A_plan_1 (l : Launch) (hlt : l.stackTraces = false) (dC : Nat → ClassId) (dI : Nat → Nat → Nat) (ad : Nat → Nat) (T : Nat → ClassId) (o : Nat) (ob : Nat → Int64) (t : St) (a0 : Int32) (a1 : Int32) (a2 : Int64) (hI : Iv t) (hb9 : ¬ x_th a1 (x_pn a0 t)) (sz : Nat) : Met l yn_A_plan (.codeWith yn_A_plan cd_A_plan 7 (some .int) [(0, 12, 15, 25), (0, 12, 19, 13), (0, 12, 23, 15)] :: UW) ({ frames := 7, cells := 1, slots := 6, locals := 119 } : Room) (va_Pc [.ref (ad 0), .int a0, .int a1, .long a2, .ref o] (Px (dC, dI) CLS (TY T) (wA ad T t o ob) sz)) (va_Qi (fun (r : Int32) (_ : Unit) => r = 1) (Bw (dC, dI) CLS (TY T) (fun _ : Unit => (wA ad T t o ob)) (va_A (wA ad T t o ob) sz)) (va_A (wA ad T t o ob) sz)) 1 6 (va_A (wA ad T t o ob) sz) := by
  refine va_MetW (cc := cd_A_plan) (maxL := 7) (ret := some .int) (by decide) rfl ?_
  intro p e s m args below meth c s₁ B hml hv
  obtain ⟨rfl, ⟨hsz, hP, hK, hD0, hN⟩, hX⟩ := hv
  have hx := B.exec
  have hb := B.bytes
  have hr := B.returns
  have hts : ∀ w ∈ UW, w.before _ s = true := fun w h => atoms_spec (ws := .codeWith yn_A_plan cd_A_plan 7 (some .int) [(0, 12, 15, 25), (0, 12, 19, 13), (0, 12, 23, 15)] :: UW) B.pre w (List.mem_cons_of_mem _ h)
  have hown : s.vm.findClass "StabilitySumsLaw" = some m.cls := findClass_of_methodNamed B.named
  have hlocks := B.notSynchronized
  subst hsz
  have hD := hD0.self (sz := s.heap.size)
  generalize hAe : va_A (wA ad T t o ob) s.heap.size = A at hD ⊢
  have hA : ∀ q : Nat, s.heap.size ≤ q → A q := fun q h => by rw [← hAe]; exact Or.inr h
  have hS : va_S A s.heap s.heap [] := va_S.rf
  have hl := lv_entry ([.ref (ad 0), .int a0, .int a1, .long a2, .ref o]) (n := 7) (Nat.le_of_ble_eq_true rfl)
  rw [lg_entry_eq]
  generalize (lg_sl ([.ref (ad 0), .int a0, .int a1, .long a2, .ref o]) ++ List.replicate (7 - (lg_sl ([.ref (ad 0), .int a0, .int a1, .long a2, .ref o])).length) Slot.unset).toArray = ls at hl ⊢
  have hl : lv_has ls 7 [(0, .ref (ad 0)), (1, .int a0), (2, .int a1), (3, .long a2), (5, .ref o)] := hl
  generalize hQ : MQ below _ _ s 1 6 A = Q
  refine lv_aload hx hb de_A_plan_0 (lv_at hl 4 rfl) ?_
  refine lv_iconst (v := 0) hx hb de_A_plan_2 (by decide) ?_
  refine lv_aload_n hx hb de_A_plan_3 rfl (lv_at hl 0 rfl) ?_
  refine lv_iload_n hx hb de_A_plan_4 rfl (lv_at hl 1 rfl) ?_
  refine lv_iload_n hx hb de_A_plan_5 rfl (lv_at hl 2 rfl) ?_
  refine lv_lload_n hx hb de_A_plan_6 rfl (lv_at hl 3 rfl) ?_
  obtain ⟨m9, meth9, c9, g1, g2, g3, -, -, htab, -⟩ := Cond.codeWith_spec (hts _ uw_669)
  cases B.named.symm.trans g1
  cases B.method.symm.trans g2
  cases (Stand.of_body B).code.symm.trans g3
  have hFc := cl_free (ww_D.mp hD).1 hS hA
  refine tc_V (As := [.int a0, .int a1, .long a2]) (rest := [.int 0, .ref o]) ⟨hx, hb, hml, hown, hts⟩ (mt_S_plan_1 l hlt dC dI ad T t a0 a1 a2 hI hb9) (cwV 3 hts (uw_V uw_670 uw_671 uw_672 uw_27 uw_673) rfl rfl rfl (by decide +kernel) ⟨Nat.le_of_ble_eq_true rfl, Nat.le_of_ble_eq_true rfl⟩) (va_recv hK (ww_P.mp hP).1 (ci := 0) (q0 := 0) rfl rfl) rfl hl.1 rfl (Nat.le_of_ble_eq_true rfl) de_A_plan_7 ⟨Nat.le_refl _, Nat.le_refl _⟩ hK hN hX (fun _ _ h _ => h) (ww_P.mp hP).1 ((ww_D.mp hD).1.weaken (fun _ _ _ _ => trivial)) hS hFc (fun q ce H locs z1 z2 z3 hP1 hD1 _ hk1 hS => ?_)
  obtain ⟨hP, hD⟩ := ww_f hP hD hFc hk1 hP1 hD1
  refine ct_tab (own := "StabilitySumsLaw") (E := "java/lang/IndexOutOfBoundsException") (name := "java/lang/IndexOutOfBoundsException") hown htab [] (0, 12, 15, 25) [(0, 12, 19, 13), (0, 12, 23, 15)] rfl (fun z hz => nomatch hz) (by decide) (by decide) (hts _ uw_556) (va_tabs rfl rfl (hX.2.1 (.castable "java/lang/IndexOutOfBoundsException" "java/lang/IndexOutOfBoundsException") (by decide))) z1 z2 z3 ?_
  refine lv_astore (lv' := [(6, .ref q), (0, .ref (ad 0)), (1, .int a0), (2, .int a1), (3, .long a2), (5, .ref o)]) hx hb de_A_plan_15 hl (by decide) rfl (fun ls hl => ?_)
  refine lv_iconst (v := 1) hx hb de_A_plan_17 (by decide) ?_
  subst hQ
  exact W.iret (v := 1) hx hb hr (fun t9 ht hW => ⟨⟨1, (), rfl, rfl, by rw [ht]; exact hP, va_K.moved hW.alike hK, hD⟩, hS.F ht⟩) hS.2.2 de_A_plan_18
set_option maxHeartbeats 4000000 in
set_option maxRecDepth 100000 in
theorem mt_A_plan_2 (l : Launch) (hlt : l.stackTraces = false) (dC : Nat → ClassId) (dI : Nat → Nat → Nat) (ad : Nat → Nat) (T : Nat → ClassId) (o : Nat) (ob : Nat → Int64) (t : St) (a0 : Int32) (a1 : Int32) (a2 : Int64) (hI : Iv t) (hok : x_th a1 (x_pn a0 t)) (hk9 : ¬ x_pk a0 a1 a2 t) (sz : Nat) : Met l yn_A_plan (.codeWith yn_A_plan cd_A_plan 7 (some .int) [(0, 12, 15, 25), (0, 12, 19, 13), (0, 12, 23, 15)] :: UW) ({ frames := 7, cells := 1, slots := 6, locals := 119 } : Room) (va_Pc [.ref (ad 0), .int a0, .int a1, .long a2, .ref o] (Px (dC, dI) CLS (TY T) (wA ad T t o ob) sz)) (va_Qi (fun (r : Int32) (_ : Unit) => r = 2) (Bw (dC, dI) CLS (TY T) (fun _ : Unit => (wA ad T t o ob)) (va_A (wA ad T t o ob) sz)) (va_A (wA ad T t o ob) sz)) 1 6 (va_A (wA ad T t o ob) sz) := by
  refine va_MetW (cc := cd_A_plan) (maxL := 7) (ret := some .int) (by decide) rfl ?_
  intro p e s m args below meth c s₁ B hml hv
  obtain ⟨rfl, ⟨hsz, hP, hK, hD0, hN⟩, hX⟩ := hv
  have hx := B.exec
  have hb := B.bytes
  have hr := B.returns
  have hts : ∀ w ∈ UW, w.before _ s = true := fun w h => atoms_spec (ws := .codeWith yn_A_plan cd_A_plan 7 (some .int) [(0, 12, 15, 25), (0, 12, 19, 13), (0, 12, 23, 15)] :: UW) B.pre w (List.mem_cons_of_mem _ h)
  have hown : s.vm.findClass "StabilitySumsLaw" = some m.cls := findClass_of_methodNamed B.named
  have hlocks := B.notSynchronized
  subst hsz
  have hD := hD0.self (sz := s.heap.size)
  generalize hAe : va_A (wA ad T t o ob) s.heap.size = A at hD ⊢
  have hA : ∀ q : Nat, s.heap.size ≤ q → A q := fun q h => by rw [← hAe]; exact Or.inr h
  have hS : va_S A s.heap s.heap [] := va_S.rf
  have hl := lv_entry ([.ref (ad 0), .int a0, .int a1, .long a2, .ref o]) (n := 7) (Nat.le_of_ble_eq_true rfl)
  rw [lg_entry_eq]
  generalize (lg_sl ([.ref (ad 0), .int a0, .int a1, .long a2, .ref o]) ++ List.replicate (7 - (lg_sl ([.ref (ad 0), .int a0, .int a1, .long a2, .ref o])).length) Slot.unset).toArray = ls at hl ⊢
  have hl : lv_has ls 7 [(0, .ref (ad 0)), (1, .int a0), (2, .int a1), (3, .long a2), (5, .ref o)] := hl
  generalize hQ : MQ below _ _ s 1 6 A = Q
  refine lv_aload hx hb de_A_plan_0 (lv_at hl 4 rfl) ?_
  refine lv_iconst (v := 0) hx hb de_A_plan_2 (by decide) ?_
  refine lv_aload_n hx hb de_A_plan_3 rfl (lv_at hl 0 rfl) ?_
  refine lv_iload_n hx hb de_A_plan_4 rfl (lv_at hl 1 rfl) ?_
  refine lv_iload_n hx hb de_A_plan_5 rfl (lv_at hl 2 rfl) ?_
  refine lv_lload_n hx hb de_A_plan_6 rfl (lv_at hl 3 rfl) ?_
  obtain ⟨m9, meth9, c9, g1, g2, g3, -, -, htab, -⟩ := Cond.codeWith_spec (hts _ uw_669)
  cases B.named.symm.trans g1
  cases B.method.symm.trans g2
  cases (Stand.of_body B).code.symm.trans g3
  have hFc := cl_free (ww_D.mp hD).1 hS hA
  refine tc_V (As := [.int a0, .int a1, .long a2]) (rest := [.int 0, .ref o]) ⟨hx, hb, hml, hown, hts⟩ (mt_S_plan_2 l hlt dC dI ad T t a0 a1 a2 hI hok hk9) (cwV 3 hts (uw_V uw_670 uw_671 uw_672 uw_27 uw_673) rfl rfl rfl (by decide +kernel) ⟨Nat.le_of_ble_eq_true rfl, Nat.le_of_ble_eq_true rfl⟩) (va_recv hK (ww_P.mp hP).1 (ci := 0) (q0 := 0) rfl rfl) rfl hl.1 rfl (Nat.le_of_ble_eq_true rfl) de_A_plan_7 ⟨Nat.le_refl _, Nat.le_refl _⟩ hK hN hX (fun _ _ h _ => h) (ww_P.mp hP).1 ((ww_D.mp hD).1.weaken (fun _ _ _ _ => trivial)) hS hFc (fun q ce H locs z1 z2 z3 hP1 hD1 _ hk1 hS => ?_)
  obtain ⟨hP, hD⟩ := ww_f hP hD hFc hk1 hP1 hD1
  refine ct_tab (own := "StabilitySumsLaw") (E := "java/lang/IllegalArgumentException") (name := "java/lang/IllegalArgumentException") hown htab [(0, 12, 15, 25)] (0, 12, 19, 13) [(0, 12, 23, 15)] rfl (fun z hz => by
    simp only [List.mem_cons, List.not_mem_nil, or_false] at hz
    rcases hz with rfl
    · exact ⟨by decide, "java/lang/IndexOutOfBoundsException", hts _ uw_556, hX.2.2.2 ("java/lang/IllegalArgumentException", "java/lang/IndexOutOfBoundsException") (by decide)⟩) (by decide) (by decide) (hts _ uw_438) (va_tabs rfl rfl (hX.2.1 (.castable "java/lang/IllegalArgumentException" "java/lang/IllegalArgumentException") (by decide))) z1 z2 z3 ?_
  refine lv_astore (lv' := [(6, .ref q), (0, .ref (ad 0)), (1, .int a0), (2, .int a1), (3, .long a2), (5, .ref o)]) hx hb de_A_plan_19 hl (by decide) rfl (fun ls hl => ?_)
  refine lv_iconst (v := 2) hx hb de_A_plan_21 (by decide) ?_
  subst hQ
  exact W.iret (v := 2) hx hb hr (fun t9 ht hW => ⟨⟨2, (), rfl, rfl, by rw [ht]; exact hP, va_K.moved hW.alike hK, hD⟩, hS.F ht⟩) hS.2.2 de_A_plan_22
set_option maxHeartbeats 4000000 in
set_option maxRecDepth 100000 in
theorem mt_A_plan_3 (l : Launch) (hlt : l.stackTraces = false) (dC : Nat → ClassId) (dI : Nat → Nat → Nat) (ad : Nat → Nat) (T : Nat → ClassId) (o : Nat) (ob : Nat → Int64) (t : St) (a0 : Int32) (a1 : Int32) (a2 : Int64) (hI : Iv t) (hok : x_th a1 (x_pn a0 t)) (hk9 : x_pk a0 a1 a2 t) (hc : ¬ t.2.2.2 4 < 20) (sz : Nat) : Met l yn_A_plan (.codeWith yn_A_plan cd_A_plan 7 (some .int) [(0, 12, 15, 25), (0, 12, 19, 13), (0, 12, 23, 15)] :: UW) ({ frames := 7, cells := 1, slots := 6, locals := 119 } : Room) (va_Pc [.ref (ad 0), .int a0, .int a1, .long a2, .ref o] (Px (dC, dI) CLS (TY T) (wA ad T t o ob) sz)) (va_Qi (fun (r : Int32) (_ : Unit) => r = 3) (Bw (dC, dI) CLS (TY T) (fun _ : Unit => (wA ad T t o ob)) (va_A (wA ad T t o ob) sz)) (va_A (wA ad T t o ob) sz)) 1 6 (va_A (wA ad T t o ob) sz) := by
  refine va_MetW (cc := cd_A_plan) (maxL := 7) (ret := some .int) (by decide) rfl ?_
  intro p e s m args below meth c s₁ B hml hv
  obtain ⟨rfl, ⟨hsz, hP, hK, hD0, hN⟩, hX⟩ := hv
  have hx := B.exec
  have hb := B.bytes
  have hr := B.returns
  have hts : ∀ w ∈ UW, w.before _ s = true := fun w h => atoms_spec (ws := .codeWith yn_A_plan cd_A_plan 7 (some .int) [(0, 12, 15, 25), (0, 12, 19, 13), (0, 12, 23, 15)] :: UW) B.pre w (List.mem_cons_of_mem _ h)
  have hown : s.vm.findClass "StabilitySumsLaw" = some m.cls := findClass_of_methodNamed B.named
  have hlocks := B.notSynchronized
  subst hsz
  have hD := hD0.self (sz := s.heap.size)
  generalize hAe : va_A (wA ad T t o ob) s.heap.size = A at hD ⊢
  have hA : ∀ q : Nat, s.heap.size ≤ q → A q := fun q h => by rw [← hAe]; exact Or.inr h
  have hS : va_S A s.heap s.heap [] := va_S.rf
  have hl := lv_entry ([.ref (ad 0), .int a0, .int a1, .long a2, .ref o]) (n := 7) (Nat.le_of_ble_eq_true rfl)
  rw [lg_entry_eq]
  generalize (lg_sl ([.ref (ad 0), .int a0, .int a1, .long a2, .ref o]) ++ List.replicate (7 - (lg_sl ([.ref (ad 0), .int a0, .int a1, .long a2, .ref o])).length) Slot.unset).toArray = ls at hl ⊢
  have hl : lv_has ls 7 [(0, .ref (ad 0)), (1, .int a0), (2, .int a1), (3, .long a2), (5, .ref o)] := hl
  generalize hQ : MQ below _ _ s 1 6 A = Q
  refine lv_aload hx hb de_A_plan_0 (lv_at hl 4 rfl) ?_
  refine lv_iconst (v := 0) hx hb de_A_plan_2 (by decide) ?_
  refine lv_aload_n hx hb de_A_plan_3 rfl (lv_at hl 0 rfl) ?_
  refine lv_iload_n hx hb de_A_plan_4 rfl (lv_at hl 1 rfl) ?_
  refine lv_iload_n hx hb de_A_plan_5 rfl (lv_at hl 2 rfl) ?_
  refine lv_lload_n hx hb de_A_plan_6 rfl (lv_at hl 3 rfl) ?_
  obtain ⟨m9, meth9, c9, g1, g2, g3, -, -, htab, -⟩ := Cond.codeWith_spec (hts _ uw_669)
  cases B.named.symm.trans g1
  cases B.method.symm.trans g2
  cases (Stand.of_body B).code.symm.trans g3
  have hFc := cl_free (ww_D.mp hD).1 hS hA
  refine tc_V (As := [.int a0, .int a1, .long a2]) (rest := [.int 0, .ref o]) ⟨hx, hb, hml, hown, hts⟩ (mt_S_plan_3 l hlt dC dI ad T t a0 a1 a2 hI hok hk9 hc) (cwV 3 hts (uw_V uw_670 uw_671 uw_672 uw_27 uw_673) rfl rfl rfl (by decide +kernel) ⟨Nat.le_of_ble_eq_true rfl, Nat.le_of_ble_eq_true rfl⟩) (va_recv hK (ww_P.mp hP).1 (ci := 0) (q0 := 0) rfl rfl) rfl hl.1 rfl (Nat.le_of_ble_eq_true rfl) de_A_plan_7 ⟨Nat.le_refl _, Nat.le_refl _⟩ hK hN hX (fun _ _ h _ => h) (ww_P.mp hP).1 ((ww_D.mp hD).1.weaken (fun _ _ _ _ => trivial)) hS hFc (fun q ce H locs z1 z2 z3 hP1 hD1 _ hk1 hS => ?_)
  obtain ⟨hP, hD⟩ := ww_f hP hD hFc hk1 hP1 hD1
  refine ct_tab (own := "StabilitySumsLaw") (E := "java/lang/IllegalStateException") (name := "java/lang/IllegalStateException") hown htab [(0, 12, 15, 25), (0, 12, 19, 13)] (0, 12, 23, 15) [] rfl (fun z hz => by
    simp only [List.mem_cons, List.not_mem_nil, or_false] at hz
    rcases hz with rfl | rfl
    · exact ⟨by decide, "java/lang/IndexOutOfBoundsException", hts _ uw_556, hX.2.2.2 ("java/lang/IllegalStateException", "java/lang/IndexOutOfBoundsException") (by decide)⟩
    · exact ⟨by decide, "java/lang/IllegalArgumentException", hts _ uw_438, hX.2.2.2 ("java/lang/IllegalStateException", "java/lang/IllegalArgumentException") (by decide)⟩) (by decide) (by decide) (hts _ uw_439) (va_tabs rfl rfl (hX.2.1 (.castable "java/lang/IllegalStateException" "java/lang/IllegalStateException") (by decide))) z1 z2 z3 ?_
  refine lv_astore (lv' := [(6, .ref q), (0, .ref (ad 0)), (1, .int a0), (2, .int a1), (3, .long a2), (5, .ref o)]) hx hb de_A_plan_23 hl (by decide) rfl (fun ls hl => ?_)
  refine lv_iconst (v := 3) hx hb de_A_plan_25 (by decide) ?_
  subst hQ
  exact W.iret (v := 3) hx hb hr (fun t9 ht hW => ⟨⟨3, (), rfl, rfl, by rw [ht]; exact hP, va_K.moved hW.alike hK, hD⟩, hS.F ht⟩) hS.2.2 de_A_plan_26
set_option maxHeartbeats 4000000 in
set_option maxRecDepth 100000 in
theorem mt_A_step (l : Launch) (hlt : l.stackTraces = false) (dC : Nat → ClassId) (dI : Nat → Nat → Nat) (ad : Nat → Nat) (T : Nat → ClassId) (o : Nat) (ob : Nat → Int64) (t : St) (a0 : Int32) (hI : Iv t) (hE : EO t) (hok : x_th a0 (t.2.2.2 4)) (sz : Nat) : Met l yn_A_step (.codeWith yn_A_step cd_A_step 4 (some .int) [(0, 9, 12, 25)] :: UW) ({ frames := 7, cells := 1, slots := 6, locals := 145 } : Room) (va_Pc [.ref (ad 0), .int a0, .ref o] (Px (dC, dI) CLS (TY T) (wA ad T t o ob) sz)) (va_Qi (fun (r : Int32) (_ : Unit) => r = 0) (Bw (dC, dI) CLS (TY T) (fun _ : Unit => (wA ad T (x_lbt (x_ss a0 t)) o (vp_updL ob 0 ((nI (x_lbn (x_ss a0 t)) : Int32).toInt64)))) (va_A (wA ad T t o ob) sz)) (va_A (wA ad T t o ob) sz)) 1 6 (va_A (wA ad T t o ob) sz) := by
  refine va_MetW (cc := cd_A_step) (maxL := 4) (ret := some .int) (by decide) rfl ?_
  intro p e s m args below meth c s₁ B hml hv
  obtain ⟨rfl, ⟨hsz, hP, hK, hD0, hN⟩, hX⟩ := hv
  have hx := B.exec
  have hb := B.bytes
  have hr := B.returns
  have hts : ∀ w ∈ UW, w.before _ s = true := fun w h => atoms_spec (ws := .codeWith yn_A_step cd_A_step 4 (some .int) [(0, 9, 12, 25)] :: UW) B.pre w (List.mem_cons_of_mem _ h)
  have hown : s.vm.findClass "StabilitySumsLaw" = some m.cls := findClass_of_methodNamed B.named
  have hlocks := B.notSynchronized
  subst hsz
  have hD := hD0.self (sz := s.heap.size)
  generalize hAe : va_A (wA ad T t o ob) s.heap.size = A at hD ⊢
  have hA : ∀ q : Nat, s.heap.size ≤ q → A q := fun q h => by rw [← hAe]; exact Or.inr h
  have hS : va_S A s.heap s.heap [] := va_S.rf
  have hl := lv_entry ([.ref (ad 0), .int a0, .ref o]) (n := 4) (Nat.le_of_ble_eq_true rfl)
  rw [lg_entry_eq]
  generalize (lg_sl ([.ref (ad 0), .int a0, .ref o]) ++ List.replicate (4 - (lg_sl ([.ref (ad 0), .int a0, .ref o])).length) Slot.unset).toArray = ls at hl ⊢
  have hl : lv_has ls 4 [(0, .ref (ad 0)), (1, .int a0), (2, .ref o)] := hl
  generalize hQ : MQ below _ _ s 1 6 A = Q
  refine W.widen (k := 1) (n := 6) (Nat.zero_le _) (Nat.zero_le _) ?_
  refine lv_aload_n hx hb de_A_step_0 rfl (lv_at hl 2 rfl) ?_
  refine lv_iconst (v := 0) hx hb de_A_step_1 (by decide) ?_
  refine lv_aload_n hx hb de_A_step_2 rfl (lv_at hl 0 rfl) ?_
  refine lv_iload_n hx hb de_A_step_3 rfl (lv_at hl 1 rfl) ?_
  refine cf_Vi (As := [.int a0]) (rest := [.int 0, .ref o]) ⟨hx, hb, hml, hown, hts⟩ (mt_S_step l dC dI ad T t a0 hI hE hok) (cwV 1 hts (uw_V uw_684 uw_685 uw_686 uw_27 uw_687) rfl rfl rfl (by decide +kernel) ⟨Nat.le_of_ble_eq_true rfl, Nat.le_of_ble_eq_true rfl⟩) (va_recv hK (ww_P.mp hP).1 (ci := 0) (q0 := 0) rfl rfl) rfl hl.1 rfl (Nat.le_of_ble_eq_true rfl) de_A_step_4 ⟨Nat.le_refl _, Nat.le_refl _⟩ hK hN hP hD hS hA (fun r _ H locs hw hP hD hS => ?_)
  have hw : r = nI (x_lbn (x_ss a0 t)) := hw
  subst hw
  refine lv_i2l (v := (nI (x_lbn (x_ss a0 t)) : Int32).toInt64) hx hb de_A_step_7 rfl ?_
  refine rw_last (f := ob) (j := 0) (x := ((nI (x_lbn (x_ss a0 t)) : Int32).toInt64)) hx hb hK hP hD hS 33 0 rfl rfl (by decide) (by decide) de_A_step_8 (fun H locs hP hD hS => ?_)
  have hP : va_P (dC, dI) CLS (wA ad T (x_lbt (x_ss a0 t)) o (vp_updL ob 0 ((nI (x_lbn (x_ss a0 t)) : Int32).toInt64))) H := hP
  have hD : va_D A (wA ad T (x_lbt (x_ss a0 t)) o (vp_updL ob 0 ((nI (x_lbn (x_ss a0 t)) : Int32).toInt64))) := hD
  refine lv_goto (tgt := 15) hx hb de_A_step_9 (by decide) ?_
  refine lv_iconst (v := 0) hx hb de_A_step_15 (by decide) ?_
  subst hQ
  exact W.iret (v := 0) hx hb hr (fun t9 ht hW => ⟨⟨0, (), rfl, rfl, by rw [ht]; exact hP, va_K.moved hW.alike hK, hD⟩, hS.F ht⟩) hS.2.2 de_A_step_16
set_option maxHeartbeats 4000000 in
set_option maxRecDepth 100000 in
theorem mt_A_step_1 (l : Launch) (hlt : l.stackTraces = false) (dC : Nat → ClassId) (dI : Nat → Nat → Nat) (ad : Nat → Nat) (T : Nat → ClassId) (o : Nat) (ob : Nat → Int64) (t : St) (a0 : Int32) (hI : Iv t) (hb9 : ¬ x_th a0 (t.2.2.2 4)) (sz : Nat) : Met l yn_A_step (.codeWith yn_A_step cd_A_step 4 (some .int) [(0, 9, 12, 25)] :: UW) ({ frames := 7, cells := 1, slots := 6, locals := 145 } : Room) (va_Pc [.ref (ad 0), .int a0, .ref o] (Px (dC, dI) CLS (TY T) (wA ad T t o ob) sz)) (va_Qi (fun (r : Int32) (_ : Unit) => r = 1) (Bw (dC, dI) CLS (TY T) (fun _ : Unit => (wA ad T t o ob)) (va_A (wA ad T t o ob) sz)) (va_A (wA ad T t o ob) sz)) 1 6 (va_A (wA ad T t o ob) sz) := by
  refine va_MetW (cc := cd_A_step) (maxL := 4) (ret := some .int) (by decide) rfl ?_
  intro p e s m args below meth c s₁ B hml hv
  obtain ⟨rfl, ⟨hsz, hP, hK, hD0, hN⟩, hX⟩ := hv
  have hx := B.exec
  have hb := B.bytes
  have hr := B.returns
  have hts : ∀ w ∈ UW, w.before _ s = true := fun w h => atoms_spec (ws := .codeWith yn_A_step cd_A_step 4 (some .int) [(0, 9, 12, 25)] :: UW) B.pre w (List.mem_cons_of_mem _ h)
  have hown : s.vm.findClass "StabilitySumsLaw" = some m.cls := findClass_of_methodNamed B.named
  have hlocks := B.notSynchronized
  subst hsz
  have hD := hD0.self (sz := s.heap.size)
  generalize hAe : va_A (wA ad T t o ob) s.heap.size = A at hD ⊢
  have hA : ∀ q : Nat, s.heap.size ≤ q → A q := fun q h => by rw [← hAe]; exact Or.inr h
  have hS : va_S A s.heap s.heap [] := va_S.rf
  have hl := lv_entry ([.ref (ad 0), .int a0, .ref o]) (n := 4) (Nat.le_of_ble_eq_true rfl)
  rw [lg_entry_eq]
  generalize (lg_sl ([.ref (ad 0), .int a0, .ref o]) ++ List.replicate (4 - (lg_sl ([.ref (ad 0), .int a0, .ref o])).length) Slot.unset).toArray = ls at hl ⊢
  have hl : lv_has ls 4 [(0, .ref (ad 0)), (1, .int a0), (2, .ref o)] := hl
  generalize hQ : MQ below _ _ s 1 6 A = Q
  refine lv_aload_n hx hb de_A_step_0 rfl (lv_at hl 2 rfl) ?_
  refine lv_iconst (v := 0) hx hb de_A_step_1 (by decide) ?_
  refine lv_aload_n hx hb de_A_step_2 rfl (lv_at hl 0 rfl) ?_
  refine lv_iload_n hx hb de_A_step_3 rfl (lv_at hl 1 rfl) ?_
  obtain ⟨m9, meth9, c9, g1, g2, g3, -, -, htab, -⟩ := Cond.codeWith_spec (hts _ uw_683)
  cases B.named.symm.trans g1
  cases B.method.symm.trans g2
  cases (Stand.of_body B).code.symm.trans g3
  have hFc := cl_free (ww_D.mp hD).1 hS hA
  refine tc_V (As := [.int a0]) (rest := [.int 0, .ref o]) ⟨hx, hb, hml, hown, hts⟩ (mt_S_step_1 l hlt dC dI ad T t a0 hI hb9) (cwV 1 hts (uw_V uw_684 uw_685 uw_686 uw_27 uw_687) rfl rfl rfl (by decide +kernel) ⟨Nat.le_of_ble_eq_true rfl, Nat.le_of_ble_eq_true rfl⟩) (va_recv hK (ww_P.mp hP).1 (ci := 0) (q0 := 0) rfl rfl) rfl hl.1 rfl (Nat.le_of_ble_eq_true rfl) de_A_step_4 ⟨Nat.le_refl _, Nat.le_refl _⟩ hK hN hX (fun _ _ h _ => h) (ww_P.mp hP).1 ((ww_D.mp hD).1.weaken (fun _ _ _ _ => trivial)) hS hFc (fun q ce H locs z1 z2 z3 hP1 hD1 _ hk1 hS => ?_)
  obtain ⟨hP, hD⟩ := ww_f hP hD hFc hk1 hP1 hD1
  refine ct_tab (own := "StabilitySumsLaw") (E := "java/lang/IndexOutOfBoundsException") (name := "java/lang/IndexOutOfBoundsException") hown htab [] (0, 9, 12, 25) [] rfl (fun z hz => nomatch hz) (by decide) (by decide) (hts _ uw_556) (va_tabs rfl rfl (hX.2.1 (.castable "java/lang/IndexOutOfBoundsException" "java/lang/IndexOutOfBoundsException") (by decide))) z1 z2 z3 ?_
  refine lv_astore_n (lv' := [(3, .ref q), (0, .ref (ad 0)), (1, .int a0), (2, .ref o)]) hx hb de_A_step_12 rfl hl (by decide) rfl (fun ls hl => ?_)
  refine lv_iconst (v := 1) hx hb de_A_step_13 (by decide) ?_
  subst hQ
  exact W.iret (v := 1) hx hb hr (fun t9 ht hW => ⟨⟨1, (), rfl, rfl, by rw [ht]; exact hP, va_K.moved hW.alike hK, hD⟩, hS.F ht⟩) hS.2.2 de_A_step_14
