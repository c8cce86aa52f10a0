set_option maxHeartbeats 4000000 in
set_option maxRecDepth 100000 in
theorem mt_S_tryMore (l : Launch) (dC : Nat → ClassId) (dI : Nat → Nat → Nat) (ad : Nat → Nat) (T : Nat → ClassId) (t : St) (i : Nat) (a1 : Int64) (hI : Iv t) (hi0 : i < 40) (sz : Nat) : Met l yn_S_tryMore (.code yn_S_tryMore cd_S_tryMore 4 none :: UW) ({ frames := 1, cells := 0, slots := 0, locals := 28 } : Room) (va_Pc [.ref (ad 0), .int (nI i), .long a1] (Pw (dC, dI) CLS (TY T) (wS ad T t) sz)) (va_Qv (fun _ : Unit => True) (Bw (dC, dI) CLS (TY T) (fun _ : Unit => (wS ad T (x_more i a1 t))) (va_A (wS ad T t) sz)) (va_A (wS ad T t) sz)) 0 0 (va_A (wS ad T t) sz) := by
  refine Met.ofW (cc := cd_S_tryMore) (maxL := 4) (ret := none) (by decide) rfl ?_
  intro p e s m args below meth c s₁ B hml hv
  obtain ⟨rfl, hsz, hP, hK, hD0, hN⟩ := hv
  have hx := B.exec
  have hb := B.bytes
  have hr := B.returns
  have hts : ∀ w ∈ UW, w.before _ s = true := fun w h => atoms_spec (ws := .code yn_S_tryMore cd_S_tryMore 4 none :: UW) B.pre w (List.mem_cons_of_mem _ h)
  have hown : s.vm.findClass "StabilitySums" = some m.cls := findClass_of_methodNamed B.named
  have hlocks := B.notSynchronized
  subst hsz
  have hD := hD0.self (sz := s.heap.size)
  generalize hAe : va_A (wS ad T t) s.heap.size = A at hD ⊢
  have hA : ∀ q : Nat, s.heap.size ≤ q → A q := fun q h => by rw [← hAe]; exact Or.inr h
  have hS : va_S A s.heap s.heap [] := va_S.rf
  have hl := lv_entry ([.ref (ad 0), .int (nI i), .long a1]) (n := 4) (Nat.le_of_ble_eq_true rfl)
  rw [lg_entry_eq]
  generalize (lg_sl ([.ref (ad 0), .int (nI i), .long a1]) ++ List.replicate (4 - (lg_sl ([.ref (ad 0), .int (nI i), .long a1])).length) Slot.unset).toArray = ls at hl ⊢
  have hl : lv_has ls 4 [(0, .ref (ad 0)), (1, .int (nI i)), (2, .long a1)] := hl
  generalize hQ : MQ below _ _ s 0 0 A = Q
  obtain ⟨hI0, hI1, hI2, hI3, hI4, hI5⟩ := hI
  refine lv_aload_n hx hb de_S_tryMore_0 rfl (lv_at hl 0 rfl) ?_
  refine va_get (D := (dC, dI)) (ci := 0) (v := .ref (ad 6)) (C := "StabilitySums") (T := TB_S) (N := 10) hx hb hts ui_S hown hK hP 0 rfl rfl 5 (by decide) (hts _ uw_261) (fun _ h9 => h9) rfl de_S_tryMore_1 ?_
  refine lv_lload_n hx hb de_S_tryMore_4 rfl (lv_at hl 2 rfl) ?_
  refine lv_aload_n hx hb de_S_tryMore_5 rfl (lv_at hl 0 rfl) ?_
  refine va_get (D := (dC, dI)) (ci := 0) (v := .ref (ad 1)) (C := "StabilitySums") (T := TB_S) (N := 10) hx hb hts ui_S hown hK hP 0 rfl rfl 0 (by decide) (hts _ uw_256) (fun _ h9 => h9) rfl de_S_tryMore_6 ?_
  refine va_get (D := (dC, dI)) (ci := 1) (v := .ref (ad 10)) (C := "StabilitySums$Weights") (T := TB_W) (N := 5) hx hb hts ui_W hown hK hP 1 rfl rfl 1 (by decide) (hts _ uw_62) (fun _ h9 => h9) rfl de_S_tryMore_9 ?_
  refine lv_iload_n hx hb de_S_tryMore_12 rfl (lv_at hl 1 rfl) ?_
  refine rw_lald (f := t.1 1) (j := i) hx hb hK hP 10 0 rfl rfl (by omega) (by decide) de_S_tryMore_13 ?_
  refine lv_aload_n hx hb de_S_tryMore_14 rfl (lv_at hl 0 rfl) ?_
  refine va_get (D := (dC, dI)) (ci := 0) (v := .ref (ad 1)) (C := "StabilitySums") (T := TB_S) (N := 10) hx hb hts ui_S hown hK hP 0 rfl rfl 0 (by decide) (hts _ uw_256) (fun _ h9 => h9) rfl de_S_tryMore_15 ?_
  refine va_get (D := (dC, dI)) (ci := 1) (v := .ref (ad 11)) (C := "StabilitySums$Weights") (T := TB_W) (N := 5) hx hb hts ui_W hown hK hP 1 rfl rfl 2 (by decide) (hts _ uw_64) (fun _ h9 => h9) rfl de_S_tryMore_18 ?_
  refine lv_iload_n hx hb de_S_tryMore_21 rfl (lv_at hl 1 rfl) ?_
  refine rw_lald (f := t.1 2) (j := i) hx hb hK hP 11 0 rfl rfl (by omega) (by decide) de_S_tryMore_22 ?_
  refine lv_aload_n hx hb de_S_tryMore_23 rfl (lv_at hl 0 rfl) ?_
  refine va_get (D := (dC, dI)) (ci := 0) (v := .ref (ad 1)) (C := "StabilitySums") (T := TB_S) (N := 10) hx hb hts ui_S hown hK hP 0 rfl rfl 0 (by decide) (hts _ uw_256) (fun _ h9 => h9) rfl de_S_tryMore_24 ?_
  refine va_get (D := (dC, dI)) (ci := 1) (v := .ref (ad 12)) (C := "StabilitySums$Weights") (T := TB_W) (N := 5) hx hb hts ui_W hown hK hP 1 rfl rfl 3 (by decide) (hts _ uw_66) (fun _ h9 => h9) rfl de_S_tryMore_27 ?_
  refine lv_iload_n hx hb de_S_tryMore_30 rfl (lv_at hl 1 rfl) ?_
  refine rw_lald (f := t.1 3) (j := i) hx hb hK hP 12 0 rfl rfl (by omega) (by decide) de_S_tryMore_31 ?_
  refine cl_Vv (As := [.long a1, .long (t.1 1 i), .long (t.1 2 i), .long (t.1 3 i)]) (rest := []) ⟨hx, hb, hml, hown, hts⟩ (mt_U_add l dC dI ad T t a1 (t.1 1 i) (t.1 2 i) (t.1 3 i)) (cwV 4 hts (uw_V uw_321 uw_322 uw_323 uw_33 uw_324) rfl rfl rfl (by decide +kernel) ⟨Nat.le_of_ble_eq_true rfl, Nat.le_of_ble_eq_true rfl⟩) (va_recv hK hP (ci := 6) (q0 := 6) rfl rfl) rfl hl.1 rfl (Nat.le_of_ble_eq_true rfl) de_S_tryMore_32 ⟨Nat.zero_le _, Nat.zero_le _⟩ hK hN hP hD hS hA (fun _ H locs hw_1 hP hD hS => ?_)
  obtain ⟨t_2, et_2⟩ : ∃ z, z = x_uadd a1 (t.1 1 i) (t.1 2 i) (t.1 3 i) t := ⟨_, rfl⟩
  have hP : va_P (dC, dI) CLS (wS ad T t_2) H := by rw [et_2]; exact hP
  have hD : va_D A (wS ad T t_2) := by rw [et_2]; exact hD
  obtain ⟨_, _, _, _, _, _⟩ : N6p t_2 t := by rw [et_2]; exact nsix (x_uadd_N _ _ _ _ _)
  refine lv_aload_n hx hb de_S_tryMore_35 rfl (lv_at hl 0 rfl) ?_
  refine va_get (D := (dC, dI)) (ci := 0) (v := .ref (ad 7)) (C := "StabilitySums") (T := TB_S) (N := 10) hx hb hts ui_S hown hK hP 0 rfl rfl 6 (by decide) (hts _ uw_262) (fun _ h9 => h9) rfl de_S_tryMore_36 ?_
  refine lv_lload_n hx hb de_S_tryMore_39 rfl (lv_at hl 2 rfl) ?_
  refine lv_aload_n hx hb de_S_tryMore_40 rfl (lv_at hl 0 rfl) ?_
  refine va_get (D := (dC, dI)) (ci := 0) (v := .ref (ad 1)) (C := "StabilitySums") (T := TB_S) (N := 10) hx hb hts ui_S hown hK hP 0 rfl rfl 0 (by decide) (hts _ uw_256) (fun _ h9 => h9) rfl de_S_tryMore_41 ?_
  refine va_get (D := (dC, dI)) (ci := 1) (v := .ref (ad 10)) (C := "StabilitySums$Weights") (T := TB_W) (N := 5) hx hb hts ui_W hown hK hP 1 rfl rfl 1 (by decide) (hts _ uw_62) (fun _ h9 => h9) rfl de_S_tryMore_44 ?_
  refine lv_iload_n hx hb de_S_tryMore_47 rfl (lv_at hl 1 rfl) ?_
  refine rw_lald (f := t_2.1 1) (j := i) hx hb hK hP 10 0 rfl rfl (by omega) (by decide) de_S_tryMore_48 ?_
  refine cl_Vv (As := [.long a1, .long (t_2.1 1 i)]) (rest := []) ⟨hx, hb, hml, hown, hts⟩ (mt_C_add l dC dI ad T t_2 a1 (t_2.1 1 i) (show t_2.2.2.2 5 ≤ 10 from by omega)) (cwV 2 hts (uw_V uw_325 uw_326 uw_327 uw_34 uw_328) rfl rfl rfl (by decide +kernel) ⟨Nat.le_of_ble_eq_true rfl, Nat.le_of_ble_eq_true rfl⟩) (va_recv hK hP (ci := 7) (q0 := 7) rfl rfl) rfl hl.1 rfl (Nat.le_of_ble_eq_true rfl) de_S_tryMore_49 ⟨Nat.zero_le _, Nat.zero_le _⟩ hK hN hP hD hS hA (fun _ H locs hw_3 hP hD hS => ?_)
  obtain ⟨t_4, et_4⟩ : ∃ z, z = x_cutsAdd a1 (t_2.1 1 i) t_2 := ⟨_, rfl⟩
  have hP : va_P (dC, dI) CLS (wS ad T t_4) H := by rw [et_4]; exact hP
  have hD : va_D A (wS ad T t_4) := by rw [et_4]; exact hD
  obtain ⟨_, _, _, _, _, _⟩ : N6p t_4 t_2 := by rw [et_4]; exact nsix (x_cutsAdd_N _ _ _)
  have hfin : t_4 = x_more i a1 t := by
    subst_vars; rfl
  rw [hfin] at hP hD
  subst hQ
  exact W.vret hx hb hr (fun t9 ht hW => ⟨⟨(), rfl, trivial, by rw [ht]; exact hP, va_K.moved hW.alike hK, hD⟩, hS.F ht⟩) hS.2.2 de_S_tryMore_52
set_option maxHeartbeats 4000000 in
set_option maxRecDepth 100000 in
theorem mt_S_tryFilling (l : Launch) (dC : Nat → ClassId) (dI : Nat → Nat → Nat) (ad : Nat → Nat) (T : Nat → ClassId) (t : St) (i : Nat) (a1 : Int64) (hI : Iv t) (hi0 : i < 4) (sz : Nat) : Met l yn_S_tryFilling (.code yn_S_tryFilling cd_S_tryFilling 6 none :: UW) ({ frames := 2, cells := 0, slots := 0, locals := 46 } : Room) (va_Pc [.ref (ad 0), .int (nI i), .long a1] (Pw (dC, dI) CLS (TY T) (wS ad T t) sz)) (va_Qv (fun _ : Unit => True) (Bw (dC, dI) CLS (TY T) (fun _ : Unit => (wS ad T (x_fillT i a1 t))) (va_A (wS ad T t) sz)) (va_A (wS ad T t) sz)) 0 0 (va_A (wS ad T t) sz) := by
  refine Met.ofW (cc := cd_S_tryFilling) (maxL := 6) (ret := none) (by decide) rfl ?_
  intro p e s m args below meth c s₁ B hml hv
  obtain ⟨rfl, hsz, hP, hK, hD0, hN⟩ := hv
  have hx := B.exec
  have hb := B.bytes
  have hr := B.returns
  have hts : ∀ w ∈ UW, w.before _ s = true := fun w h => atoms_spec (ws := .code yn_S_tryFilling cd_S_tryFilling 6 none :: UW) B.pre w (List.mem_cons_of_mem _ h)
  have hown : s.vm.findClass "StabilitySums" = some m.cls := findClass_of_methodNamed B.named
  have hlocks := B.notSynchronized
  subst hsz
  have hD := hD0.self (sz := s.heap.size)
  generalize hAe : va_A (wS ad T t) s.heap.size = A at hD ⊢
  have hA : ∀ q : Nat, s.heap.size ≤ q → A q := fun q h => by rw [← hAe]; exact Or.inr h
  have hS : va_S A s.heap s.heap [] := va_S.rf
  have hl := lv_entry ([.ref (ad 0), .int (nI i), .long a1]) (n := 6) (Nat.le_of_ble_eq_true rfl)
  rw [lg_entry_eq]
  generalize (lg_sl ([.ref (ad 0), .int (nI i), .long a1]) ++ List.replicate (6 - (lg_sl ([.ref (ad 0), .int (nI i), .long a1])).length) Slot.unset).toArray = ls at hl ⊢
  have hl : lv_has ls 6 [(0, .ref (ad 0)), (1, .int (nI i)), (2, .long a1)] := hl
  generalize hQ : MQ below _ _ s 0 0 A = Q
  obtain ⟨hI0, hI1, hI2, hI3, hI4, hI5⟩ := hI
  refine lv_lload_n hx hb de_S_tryFilling_0 rfl (lv_at hl 2 rfl) ?_
  refine lv_aload_n hx hb de_S_tryFilling_1 rfl (lv_at hl 0 rfl) ?_
  refine va_get (D := (dC, dI)) (ci := 0) (v := .ref (ad 2)) (C := "StabilitySums") (T := TB_S) (N := 10) hx hb hts ui_S hown hK hP 0 rfl rfl 1 (by decide) (hts _ uw_257) (fun _ h9 => h9) rfl de_S_tryFilling_2 ?_
  refine va_get (D := (dC, dI)) (ci := 2) (v := .ref (ad 19)) (C := "StabilitySums$Tanks") (T := TB_T) (N := 9) hx hb hts ui_T hown hK hP 2 rfl rfl 6 (by decide) (hts _ uw_99) (fun _ h9 => h9) rfl de_S_tryFilling_5 ?_
  refine lv_iload_n hx hb de_S_tryFilling_8 rfl (lv_at hl 1 rfl) ?_
  refine rw_lald (f := t.1 10) (j := i) hx hb hK hP 19 0 rfl rfl (by omega) (by decide) de_S_tryFilling_9 ?_
  refine lv_lsub hx hb de_S_tryFilling_10 ?_
  refine lv_topl (fun v_1 ev_1 => ?_)
  have ev_1 : v_1 = a1 - (t.1 10 i) := ev_1
  refine lv_lstore (lv' := [(4, .long v_1), (0, .ref (ad 0)), (1, .int (nI i)), (2, .long a1)]) hx hb de_S_tryFilling_11 hl (by decide) rfl (fun ls hl => ?_)
  refine lv_lload hx hb de_S_tryFilling_13 (lv_at hl 0 rfl) ?_
  refine lv_lconst (v := 0) hx hb de_S_tryFilling_15 (by decide) ?_
  refine rw_ne (tgt := 21) hx hb de_S_tryFilling_16 de_S_tryFilling_17 (by decide) (fun c_2 => ?_) (fun c_2 => ?_)
  · skip
    refine lv_aload_n hx hb de_S_tryFilling_21 rfl (lv_at hl 1 rfl) ?_
    refine va_get (D := (dC, dI)) (ci := 0) (v := .ref (ad 6)) (C := "StabilitySums") (T := TB_S) (N := 10) hx hb hts ui_S hown hK hP 0 rfl rfl 5 (by decide) (hts _ uw_261) (fun _ h9 => h9) rfl de_S_tryFilling_22 ?_
    refine lv_dup hx hb de_S_tryFilling_25 rfl ?_
    refine va_get (D := (dC, dI)) (ci := 6) (v := .long (t.2.2.1 6)) (C := "StabilitySums$Sums") (T := TB_U) (N := 5) hx hb hts ui_U hown hK hP 6 rfl rfl 4 (by decide) (hts _ uw_206) (fun _ h9 => h9) rfl de_S_tryFilling_26 ?_
    refine lv_aload_n hx hb de_S_tryFilling_29 rfl (lv_at hl 1 rfl) ?_
    refine va_get (D := (dC, dI)) (ci := 0) (v := .ref (ad 2)) (C := "StabilitySums") (T := TB_S) (N := 10) hx hb hts ui_S hown hK hP 0 rfl rfl 1 (by decide) (hts _ uw_257) (fun _ h9 => h9) rfl de_S_tryFilling_30 ?_
    refine lv_iload_n hx hb de_S_tryFilling_33 rfl (lv_at hl 2 rfl) ?_
    refine lv_aload_n hx hb de_S_tryFilling_34 rfl (lv_at hl 1 rfl) ?_
    refine va_get (D := (dC, dI)) (ci := 0) (v := .ref (ad 2)) (C := "StabilitySums") (T := TB_S) (N := 10) hx hb hts ui_S hown hK hP 0 rfl rfl 1 (by decide) (hts _ uw_257) (fun _ h9 => h9) rfl de_S_tryFilling_35 ?_
    refine va_get (D := (dC, dI)) (ci := 2) (v := .ref (ad 19)) (C := "StabilitySums$Tanks") (T := TB_T) (N := 9) hx hb hts ui_T hown hK hP 2 rfl rfl 6 (by decide) (hts _ uw_99) (fun _ h9 => h9) rfl de_S_tryFilling_38 ?_
    refine lv_iload_n hx hb de_S_tryFilling_41 rfl (lv_at hl 2 rfl) ?_
    refine rw_lald (f := t.1 10) (j := i) hx hb hK hP 19 0 rfl rfl (by omega) (by decide) de_S_tryFilling_42 ?_
    refine cl_Vl (As := [.int (nI i), .long (t.1 10 i)]) (rest := [.long (t.2.2.1 6), .ref (ad 6)]) ⟨hx, hb, hml, hown, hts⟩ (mt_T_surfaceOf l dC dI ad T t i (t.1 10 i) (show i < 4 from by omega)) (cwV 2 hts (uw_V uw_333 uw_334 uw_335 uw_29 uw_336) rfl rfl rfl (by decide +kernel) ⟨Nat.le_of_ble_eq_true rfl, Nat.le_of_ble_eq_true rfl⟩) (va_recv hK hP (ci := 2) (q0 := 2) rfl rfl) rfl hl.1 rfl (Nat.le_of_ble_eq_true rfl) de_S_tryFilling_43 ⟨Nat.zero_le _, Nat.zero_le _⟩ hK hN hP hD hS hA (fun r_3 _ H locs hw_3 hP hD hS => ?_)
    have hw_3 : r_3 = x_surf t i (t.1 10 i) := hw_3
    refine lv_lsub hx hb de_S_tryFilling_46 ?_
    refine lv_topl (fun v_4 ev_4 => ?_)
    have ev_4 : v_4 = (t.2.2.1 6) - r_3 := ev_4
    refine va_put (D := (dC, dI)) (ci := 6) (v := .long v_4) (ty := .long) (C := "StabilitySums$Sums") (T := TB_U) (N := 5) hx hb hts ui_U tt_U tk_U nm_U hown hK hP hD hS 6 rfl rfl 4 (by decide) (hts _ uw_206) (fun _ h9 => h9) rfl (by decide +kernel) rfl rfl (Nat.le_of_ble_eq_true rfl) de_S_tryFilling_47 (fun H locs hP hD hS => ?_)
    have hP : va_P (dC, dI) CLS (wS ad T (sF t 6 v_4)) H := hP
    have hD : va_D A (wS ad T (sF t 6 v_4)) := hD
    refine lv_aload_n hx hb de_S_tryFilling_50 rfl (lv_at hl 1 rfl) ?_
    refine va_get (D := (dC, dI)) (ci := 0) (v := .ref (ad 6)) (C := "StabilitySums") (T := TB_S) (N := 10) hx hb hts ui_S hown hK hP 0 rfl rfl 5 (by decide) (hts _ uw_261) (fun _ h9 => h9) rfl de_S_tryFilling_51 ?_
    refine lv_dup hx hb de_S_tryFilling_54 rfl ?_
    refine va_get (D := (dC, dI)) (ci := 6) (v := .long v_4) (C := "StabilitySums$Sums") (T := TB_U) (N := 5) hx hb hts ui_U hown hK hP 6 rfl rfl 4 (by decide) (hts _ uw_206) (fun _ h9 => h9) rfl de_S_tryFilling_55 ?_
    refine lv_aload_n hx hb de_S_tryFilling_58 rfl (lv_at hl 1 rfl) ?_
    refine va_get (D := (dC, dI)) (ci := 0) (v := .ref (ad 2)) (C := "StabilitySums") (T := TB_S) (N := 10) hx hb hts ui_S hown hK hP 0 rfl rfl 1 (by decide) (hts _ uw_257) (fun _ h9 => h9) rfl de_S_tryFilling_59 ?_
    refine lv_iload_n hx hb de_S_tryFilling_62 rfl (lv_at hl 2 rfl) ?_
    refine lv_lload_n hx hb de_S_tryFilling_63 rfl (lv_at hl 3 rfl) ?_
    refine cl_Vl (As := [.int (nI i), .long a1]) (rest := [.long v_4, .ref (ad 6)]) ⟨hx, hb, hml, hown, hts⟩ (mt_T_surfaceOf l dC dI ad T (sF t 6 v_4) i a1 (show i < 4 from by omega)) (cwV 2 hts (uw_V uw_333 uw_334 uw_335 uw_29 uw_336) rfl rfl rfl (by decide +kernel) ⟨Nat.le_of_ble_eq_true rfl, Nat.le_of_ble_eq_true rfl⟩) (va_recv hK hP (ci := 2) (q0 := 2) rfl rfl) rfl hl.1 rfl (Nat.le_of_ble_eq_true rfl) de_S_tryFilling_64 ⟨Nat.zero_le _, Nat.zero_le _⟩ hK hN hP hD hS hA (fun r_5 _ H locs hw_5 hP hD hS => ?_)
    have hw_5 : r_5 = x_surf (sF t 6 v_4) i a1 := hw_5
    refine lv_ladd hx hb de_S_tryFilling_67 ?_
    refine lv_topl (fun v_6 ev_6 => ?_)
    have ev_6 : v_6 = v_4 + r_5 := ev_6
    refine va_put (D := (dC, dI)) (ci := 6) (v := .long v_6) (ty := .long) (C := "StabilitySums$Sums") (T := TB_U) (N := 5) hx hb hts ui_U tt_U tk_U nm_U hown hK hP hD hS 6 rfl rfl 4 (by decide) (hts _ uw_206) (fun _ h9 => h9) rfl (by decide +kernel) rfl rfl (Nat.le_of_ble_eq_true rfl) de_S_tryFilling_68 (fun H locs hP hD hS => ?_)
    have hP : va_P (dC, dI) CLS (wS ad T (sF (sF t 6 v_4) 6 v_6)) H := hP
    have hD : va_D A (wS ad T (sF (sF t 6 v_4) 6 v_6)) := hD
    refine lv_aload_n hx hb de_S_tryFilling_71 rfl (lv_at hl 1 rfl) ?_
    refine va_get (D := (dC, dI)) (ci := 0) (v := .ref (ad 6)) (C := "StabilitySums") (T := TB_S) (N := 10) hx hb hts ui_S hown hK hP 0 rfl rfl 5 (by decide) (hts _ uw_261) (fun _ h9 => h9) rfl de_S_tryFilling_72 ?_
    refine lv_lload hx hb de_S_tryFilling_75 (lv_at hl 0 rfl) ?_
    refine lv_aload_n hx hb de_S_tryFilling_77 rfl (lv_at hl 1 rfl) ?_
    refine va_get (D := (dC, dI)) (ci := 0) (v := .ref (ad 2)) (C := "StabilitySums") (T := TB_S) (N := 10) hx hb hts ui_S hown hK hP 0 rfl rfl 1 (by decide) (hts _ uw_257) (fun _ h9 => h9) rfl de_S_tryFilling_78 ?_
    refine va_get (D := (dC, dI)) (ci := 2) (v := .ref (ad 15)) (C := "StabilitySums$Tanks") (T := TB_T) (N := 9) hx hb hts ui_T hown hK hP 2 rfl rfl 2 (by decide) (hts _ uw_91) (fun _ h9 => h9) rfl de_S_tryFilling_81 ?_
    refine lv_iload_n hx hb de_S_tryFilling_84 rfl (lv_at hl 2 rfl) ?_
    refine rw_lald (f := t.1 6) (j := i) hx hb hK hP 15 0 rfl rfl (by omega) (by decide) de_S_tryFilling_85 ?_
    refine lv_aload_n hx hb de_S_tryFilling_86 rfl (lv_at hl 1 rfl) ?_
    refine va_get (D := (dC, dI)) (ci := 0) (v := .ref (ad 2)) (C := "StabilitySums") (T := TB_S) (N := 10) hx hb hts ui_S hown hK hP 0 rfl rfl 1 (by decide) (hts _ uw_257) (fun _ h9 => h9) rfl de_S_tryFilling_87 ?_
    refine va_get (D := (dC, dI)) (ci := 2) (v := .ref (ad 16)) (C := "StabilitySums$Tanks") (T := TB_T) (N := 9) hx hb hts ui_T hown hK hP 2 rfl rfl 3 (by decide) (hts _ uw_93) (fun _ h9 => h9) rfl de_S_tryFilling_90 ?_
    refine lv_iload_n hx hb de_S_tryFilling_93 rfl (lv_at hl 2 rfl) ?_
    refine rw_lald (f := t.1 7) (j := i) hx hb hK hP 16 0 rfl rfl (by omega) (by decide) de_S_tryFilling_94 ?_
    refine lv_aload_n hx hb de_S_tryFilling_95 rfl (lv_at hl 1 rfl) ?_
    refine va_get (D := (dC, dI)) (ci := 0) (v := .ref (ad 2)) (C := "StabilitySums") (T := TB_S) (N := 10) hx hb hts ui_S hown hK hP 0 rfl rfl 1 (by decide) (hts _ uw_257) (fun _ h9 => h9) rfl de_S_tryFilling_96 ?_
    refine va_get (D := (dC, dI)) (ci := 2) (v := .ref (ad 17)) (C := "StabilitySums$Tanks") (T := TB_T) (N := 9) hx hb hts ui_T hown hK hP 2 rfl rfl 4 (by decide) (hts _ uw_95) (fun _ h9 => h9) rfl de_S_tryFilling_99 ?_
    refine lv_iload_n hx hb de_S_tryFilling_102 rfl (lv_at hl 2 rfl) ?_
    refine rw_lald (f := t.1 8) (j := i) hx hb hK hP 17 0 rfl rfl (by omega) (by decide) de_S_tryFilling_103 ?_
    refine cl_Vv (As := [.long v_1, .long (t.1 6 i), .long (t.1 7 i), .long (t.1 8 i)]) (rest := []) ⟨hx, hb, hml, hown, hts⟩ (mt_U_add l dC dI ad T (sF (sF t 6 v_4) 6 v_6) v_1 (t.1 6 i) (t.1 7 i) (t.1 8 i)) (cwV 4 hts (uw_V uw_321 uw_322 uw_323 uw_33 uw_324) rfl rfl rfl (by decide +kernel) ⟨Nat.le_of_ble_eq_true rfl, Nat.le_of_ble_eq_true rfl⟩) (va_recv hK hP (ci := 6) (q0 := 6) rfl rfl) rfl hl.1 rfl (Nat.le_of_ble_eq_true rfl) de_S_tryFilling_104 ⟨Nat.zero_le _, Nat.zero_le _⟩ hK hN hP hD hS hA (fun _ H locs hw_7 hP hD hS => ?_)
    obtain ⟨t_8, et_8⟩ : ∃ z, z = x_uadd v_1 (t.1 6 i) (t.1 7 i) (t.1 8 i) (sF (sF t 6 v_4) 6 v_6) := ⟨_, rfl⟩
    have hP : va_P (dC, dI) CLS (wS ad T t_8) H := by rw [et_8]; exact hP
    have hD : va_D A (wS ad T t_8) := by rw [et_8]; exact hD
    obtain ⟨_, _, _, _, _, _⟩ : N6p t_8 t := by rw [et_8]; exact nsix (x_uadd_N _ _ _ _ _)
    refine lv_aload_n hx hb de_S_tryFilling_107 rfl (lv_at hl 1 rfl) ?_
    refine va_get (D := (dC, dI)) (ci := 0) (v := .ref (ad 7)) (C := "StabilitySums") (T := TB_S) (N := 10) hx hb hts ui_S hown hK hP 0 rfl rfl 6 (by decide) (hts _ uw_262) (fun _ h9 => h9) rfl de_S_tryFilling_108 ?_
    refine lv_lload hx hb de_S_tryFilling_111 (lv_at hl 0 rfl) ?_
    refine lv_aload_n hx hb de_S_tryFilling_113 rfl (lv_at hl 1 rfl) ?_
    refine va_get (D := (dC, dI)) (ci := 0) (v := .ref (ad 2)) (C := "StabilitySums") (T := TB_S) (N := 10) hx hb hts ui_S hown hK hP 0 rfl rfl 1 (by decide) (hts _ uw_257) (fun _ h9 => h9) rfl de_S_tryFilling_114 ?_
    refine va_get (D := (dC, dI)) (ci := 2) (v := .ref (ad 15)) (C := "StabilitySums$Tanks") (T := TB_T) (N := 9) hx hb hts ui_T hown hK hP 2 rfl rfl 2 (by decide) (hts _ uw_91) (fun _ h9 => h9) rfl de_S_tryFilling_117 ?_
    refine lv_iload_n hx hb de_S_tryFilling_120 rfl (lv_at hl 2 rfl) ?_
    refine rw_lald (f := t_8.1 6) (j := i) hx hb hK hP 15 0 rfl rfl (by omega) (by decide) de_S_tryFilling_121 ?_
    refine cl_Vv (As := [.long v_1, .long (t_8.1 6 i)]) (rest := []) ⟨hx, hb, hml, hown, hts⟩ (mt_C_add l dC dI ad T t_8 v_1 (t_8.1 6 i) (show t_8.2.2.2 5 ≤ 10 from by omega)) (cwV 2 hts (uw_V uw_325 uw_326 uw_327 uw_34 uw_328) rfl rfl rfl (by decide +kernel) ⟨Nat.le_of_ble_eq_true rfl, Nat.le_of_ble_eq_true rfl⟩) (va_recv hK hP (ci := 7) (q0 := 7) rfl rfl) rfl hl.1 rfl (Nat.le_of_ble_eq_true rfl) de_S_tryFilling_122 ⟨Nat.zero_le _, Nat.zero_le _⟩ hK hN hP hD hS hA (fun _ H locs hw_9 hP hD hS => ?_)
    obtain ⟨t_10, et_10⟩ : ∃ z, z = x_cutsAdd v_1 (t_8.1 6 i) t_8 := ⟨_, rfl⟩
    have hP : va_P (dC, dI) CLS (wS ad T t_10) H := by rw [et_10]; exact hP
    have hD : va_D A (wS ad T t_10) := by rw [et_10]; exact hD
    obtain ⟨_, _, _, _, _, _⟩ : N6p t_10 t_8 := by rw [et_10]; exact nsix (x_cutsAdd_N _ _ _)
    refine lv_aload_n hx hb de_S_tryFilling_125 rfl (lv_at hl 1 rfl) ?_
    refine va_get (D := (dC, dI)) (ci := 0) (v := .ref (ad 2)) (C := "StabilitySums") (T := TB_S) (N := 10) hx hb hts ui_S hown hK hP 0 rfl rfl 1 (by decide) (hts _ uw_257) (fun _ h9 => h9) rfl de_S_tryFilling_126 ?_
    refine va_get (D := (dC, dI)) (ci := 2) (v := .ref (ad 19)) (C := "StabilitySums$Tanks") (T := TB_T) (N := 9) hx hb hts ui_T hown hK hP 2 rfl rfl 6 (by decide) (hts _ uw_99) (fun _ h9 => h9) rfl de_S_tryFilling_129 ?_
    refine lv_iload_n hx hb de_S_tryFilling_132 rfl (lv_at hl 2 rfl) ?_
    refine lv_lload_n hx hb de_S_tryFilling_133 rfl (lv_at hl 3 rfl) ?_
    refine rw_last (f := t_10.1 10) (j := i) (x := a1) hx hb hK hP hD hS 19 0 rfl rfl (by omega) (by decide) de_S_tryFilling_134 (fun H locs hP hD hS => ?_)
    have hP : va_P (dC, dI) CLS (wS ad T (sL t_10 10 i a1)) H := hP
    have hD : va_D A (wS ad T (sL t_10 10 i a1)) := hD
    have hfin : (sL t_10 10 i a1) = x_fillT i a1 t := by
      subst_vars; unfold x_fillT; first | (rw [if_pos c_2]; done) | (rw [if_neg c_2]; rfl)
    rw [hfin] at hP hD
    subst hQ
    exact W.vret hx hb hr (fun t9 ht hW => ⟨⟨(), rfl, trivial, by rw [ht]; exact hP, va_K.moved hW.alike hK, hD⟩, hS.F ht⟩) hS.2.2 de_S_tryFilling_135
  · skip
    have hfin : t = x_fillT i a1 t := by
      subst_vars; unfold x_fillT; first | (rw [if_pos c_2]; done) | (rw [if_neg c_2]; rfl)
    rw [hfin] at hP hD
    subst hQ
    exact W.vret hx hb hr (fun t9 ht hW => ⟨⟨(), rfl, trivial, by rw [ht]; exact hP, va_K.moved hW.alike hK, hD⟩, hS.F ht⟩) hS.2.2 de_S_tryFilling_20
set_option maxHeartbeats 4000000 in
set_option maxRecDepth 100000 in
theorem mt_S_tryStep (l : Launch) (dC : Nat → ClassId) (dI : Nat → Nat → Nat) (ad : Nat → Nat) (T : Nat → ClassId) (t : St) (i : Nat) (hI : Iv t) (hi0 : i < 20) (hs1 : t.2.1 2 i = nI (t.2.1 2 i).toNatClampNeg) (hs2 : t.2.1 1 i = 0 → (t.2.1 2 i).toNatClampNeg < 40) (hs3 : ¬ t.2.1 1 i = 0 → (t.2.1 2 i).toNatClampNeg < 4) (sz : Nat) : Met l yn_S_tryStep (.code yn_S_tryStep cd_S_tryStep 2 none :: UW) ({ frames := 3, cells := 0, slots := 0, locals := 71 } : Room) (va_Pc [.ref (ad 0), .int (nI i)] (Pw (dC, dI) CLS (TY T) (wS ad T t) sz)) (va_Qv (fun _ : Unit => True) (Bw (dC, dI) CLS (TY T) (fun _ : Unit => (wS ad T (x_stp i t))) (va_A (wS ad T t) sz)) (va_A (wS ad T t) sz)) 0 0 (va_A (wS ad T t) sz) := by
  refine Met.ofW (cc := cd_S_tryStep) (maxL := 2) (ret := none) (by decide) rfl ?_
  intro p e s m args below meth c s₁ B hml hv
  obtain ⟨rfl, hsz, hP, hK, hD0, hN⟩ := hv
  have hx := B.exec
  have hb := B.bytes
  have hr := B.returns
  have hts : ∀ w ∈ UW, w.before _ s = true := fun w h => atoms_spec (ws := .code yn_S_tryStep cd_S_tryStep 2 none :: UW) B.pre w (List.mem_cons_of_mem _ h)
  have hown : s.vm.findClass "StabilitySums" = some m.cls := findClass_of_methodNamed B.named
  have hlocks := B.notSynchronized
  subst hsz
  have hD := hD0.self (sz := s.heap.size)
  generalize hAe : va_A (wS ad T t) s.heap.size = A at hD ⊢
  have hA : ∀ q : Nat, s.heap.size ≤ q → A q := fun q h => by rw [← hAe]; exact Or.inr h
  have hS : va_S A s.heap s.heap [] := va_S.rf
  have hl := lv_entry ([.ref (ad 0), .int (nI i)]) (n := 2) (Nat.le_of_ble_eq_true rfl)
  rw [lg_entry_eq]
  generalize (lg_sl ([.ref (ad 0), .int (nI i)]) ++ List.replicate (2 - (lg_sl ([.ref (ad 0), .int (nI i)])).length) Slot.unset).toArray = ls at hl ⊢
  have hl : lv_has ls 2 [(0, .ref (ad 0)), (1, .int (nI i))] := hl
  generalize hQ : MQ below _ _ s 0 0 A = Q
  obtain ⟨hI0, hI1, hI2, hI3, hI4, hI5⟩ := hI
  refine lv_aload_n hx hb de_S_tryStep_0 rfl (lv_at hl 0 rfl) ?_
  refine va_get (D := (dC, dI)) (ci := 0) (v := .ref (ad 5)) (C := "StabilitySums") (T := TB_S) (N := 10) hx hb hts ui_S hown hK hP 0 rfl rfl 4 (by decide) (hts _ uw_260) (fun _ h9 => h9) rfl de_S_tryStep_1 ?_
  refine va_get (D := (dC, dI)) (ci := 5) (v := .ref (ad 27)) (C := "StabilitySums$Steps") (T := TB_E) (N := 4) hx hb hts ui_E hown hK hP 5 rfl rfl 0 (by decide) (hts _ uw_174) (fun _ h9 => h9) rfl de_S_tryStep_4 ?_
  refine lv_iload_n hx hb de_S_tryStep_7 rfl (lv_at hl 1 rfl) ?_
  refine rw_zald (f := t.2.1 1) (j := i) hx hb hK hP 27 2 rfl rfl (by omega) (by decide) de_S_tryStep_8 ?_
  refine lv_if_eq (tgt := 37) hx hb de_S_tryStep_9 (by decide) (fun c_1 => ?_) (fun c_1 => ?_)
  · skip
    refine lv_aload_n hx hb de_S_tryStep_37 rfl (lv_at hl 0 rfl) ?_
    refine lv_aload_n hx hb de_S_tryStep_38 rfl (lv_at hl 0 rfl) ?_
    refine va_get (D := (dC, dI)) (ci := 0) (v := .ref (ad 5)) (C := "StabilitySums") (T := TB_S) (N := 10) hx hb hts ui_S hown hK hP 0 rfl rfl 4 (by decide) (hts _ uw_260) (fun _ h9 => h9) rfl de_S_tryStep_39 ?_
    refine va_get (D := (dC, dI)) (ci := 5) (v := .ref (ad 28)) (C := "StabilitySums$Steps") (T := TB_E) (N := 4) hx hb hts ui_E hown hK hP 5 rfl rfl 1 (by decide) (hts _ uw_176) (fun _ h9 => h9) rfl de_S_tryStep_42 ?_
    refine lv_iload_n hx hb de_S_tryStep_45 rfl (lv_at hl 1 rfl) ?_
    refine rw_iald (f := t.2.1 2) (j := i) hx hb hK hP 28 1 rfl rfl (by omega) (by decide) de_S_tryStep_46 ?_
    refine lv_aload_n hx hb de_S_tryStep_47 rfl (lv_at hl 0 rfl) ?_
    refine va_get (D := (dC, dI)) (ci := 0) (v := .ref (ad 5)) (C := "StabilitySums") (T := TB_S) (N := 10) hx hb hts ui_S hown hK hP 0 rfl rfl 4 (by decide) (hts _ uw_260) (fun _ h9 => h9) rfl de_S_tryStep_48 ?_
    refine va_get (D := (dC, dI)) (ci := 5) (v := .ref (ad 29)) (C := "StabilitySums$Steps") (T := TB_E) (N := 4) hx hb hts ui_E hown hK hP 5 rfl rfl 2 (by decide) (hts _ uw_178) (fun _ h9 => h9) rfl de_S_tryStep_51 ?_
    refine lv_iload_n hx hb de_S_tryStep_54 rfl (lv_at hl 1 rfl) ?_
    refine rw_lald (f := t.1 17) (j := i) hx hb hK hP 29 0 rfl rfl (by omega) (by decide) de_S_tryStep_55 ?_
    have hix_56 : (t.2.1 2 i) = nI ((t.2.1 2 i).toNatClampNeg) := hs1
    rw [hix_56]
    refine cl_Vv (As := [.int (nI ((t.2.1 2 i).toNatClampNeg)), .long (t.1 17 i)]) (rest := []) ⟨hx, hb, hml, hown, hts⟩ (mt_S_tryMore l dC dI ad T t ((t.2.1 2 i).toNatClampNeg) (t.1 17 i) (show Iv t from (by refine ⟨?_, ?_, ?_, ?_, ?_, ?_⟩ <;> omega)) (hs2 c_1)) (cwV 2 hts (uw_V uw_317 uw_319 uw_1 uw_27 uw_320) rfl rfl rfl (by decide +kernel) ⟨Nat.le_of_ble_eq_true rfl, Nat.le_of_ble_eq_true rfl⟩) (va_recv hK hP (ci := 0) (q0 := 0) rfl rfl) rfl hl.1 rfl (Nat.le_of_ble_eq_true rfl) de_S_tryStep_56 ⟨Nat.zero_le _, Nat.zero_le _⟩ hK hN hP hD hS hA (fun _ H locs hw_2 hP hD hS => ?_)
    obtain ⟨t_3, et_3⟩ : ∃ z, z = x_more ((t.2.1 2 i).toNatClampNeg) (t.1 17 i) t := ⟨_, rfl⟩
    have hP : va_P (dC, dI) CLS (wS ad T t_3) H := by rw [et_3]; exact hP
    have hD : va_D A (wS ad T t_3) := by rw [et_3]; exact hD
    obtain ⟨_, _, _, _, _, _⟩ : N6p t_3 t := by rw [et_3]; exact nsix (x_more_N _ _ _)
    have hfin : t_3 = x_stp i t := by
      subst_vars; unfold x_stp; first | rw [if_pos c_1] | rw [if_neg c_1]
    rw [hfin] at hP hD
    subst hQ
    exact W.vret hx hb hr (fun t9 ht hW => ⟨⟨(), rfl, trivial, by rw [ht]; exact hP, va_K.moved hW.alike hK, hD⟩, hS.F ht⟩) hS.2.2 de_S_tryStep_59
  · skip
    refine lv_aload_n hx hb de_S_tryStep_12 rfl (lv_at hl 0 rfl) ?_
    refine lv_aload_n hx hb de_S_tryStep_13 rfl (lv_at hl 0 rfl) ?_
    refine va_get (D := (dC, dI)) (ci := 0) (v := .ref (ad 5)) (C := "StabilitySums") (T := TB_S) (N := 10) hx hb hts ui_S hown hK hP 0 rfl rfl 4 (by decide) (hts _ uw_260) (fun _ h9 => h9) rfl de_S_tryStep_14 ?_
    refine va_get (D := (dC, dI)) (ci := 5) (v := .ref (ad 28)) (C := "StabilitySums$Steps") (T := TB_E) (N := 4) hx hb hts ui_E hown hK hP 5 rfl rfl 1 (by decide) (hts _ uw_176) (fun _ h9 => h9) rfl de_S_tryStep_17 ?_
    refine lv_iload_n hx hb de_S_tryStep_20 rfl (lv_at hl 1 rfl) ?_
    refine rw_iald (f := t.2.1 2) (j := i) hx hb hK hP 28 1 rfl rfl (by omega) (by decide) de_S_tryStep_21 ?_
    refine lv_aload_n hx hb de_S_tryStep_22 rfl (lv_at hl 0 rfl) ?_
    refine va_get (D := (dC, dI)) (ci := 0) (v := .ref (ad 5)) (C := "StabilitySums") (T := TB_S) (N := 10) hx hb hts ui_S hown hK hP 0 rfl rfl 4 (by decide) (hts _ uw_260) (fun _ h9 => h9) rfl de_S_tryStep_23 ?_
    refine va_get (D := (dC, dI)) (ci := 5) (v := .ref (ad 29)) (C := "StabilitySums$Steps") (T := TB_E) (N := 4) hx hb hts ui_E hown hK hP 5 rfl rfl 2 (by decide) (hts _ uw_178) (fun _ h9 => h9) rfl de_S_tryStep_26 ?_
    refine lv_iload_n hx hb de_S_tryStep_29 rfl (lv_at hl 1 rfl) ?_
    refine rw_lald (f := t.1 17) (j := i) hx hb hK hP 29 0 rfl rfl (by omega) (by decide) de_S_tryStep_30 ?_
    have hix_31 : (t.2.1 2 i) = nI ((t.2.1 2 i).toNatClampNeg) := hs1
    rw [hix_31]
    refine cl_Vv (As := [.int (nI ((t.2.1 2 i).toNatClampNeg)), .long (t.1 17 i)]) (rest := []) ⟨hx, hb, hml, hown, hts⟩ (mt_S_tryFilling l dC dI ad T t ((t.2.1 2 i).toNatClampNeg) (t.1 17 i) (show Iv t from (by refine ⟨?_, ?_, ?_, ?_, ?_, ?_⟩ <;> omega)) (hs3 c_1)) (cwV 2 hts (uw_V uw_329 uw_331 uw_2 uw_27 uw_332) rfl rfl rfl (by decide +kernel) ⟨Nat.le_of_ble_eq_true rfl, Nat.le_of_ble_eq_true rfl⟩) (va_recv hK hP (ci := 0) (q0 := 0) rfl rfl) rfl hl.1 rfl (Nat.le_of_ble_eq_true rfl) de_S_tryStep_31 ⟨Nat.zero_le _, Nat.zero_le _⟩ hK hN hP hD hS hA (fun _ H locs hw_4 hP hD hS => ?_)
    obtain ⟨t_5, et_5⟩ : ∃ z, z = x_fillT ((t.2.1 2 i).toNatClampNeg) (t.1 17 i) t := ⟨_, rfl⟩
    have hP : va_P (dC, dI) CLS (wS ad T t_5) H := by rw [et_5]; exact hP
    have hD : va_D A (wS ad T t_5) := by rw [et_5]; exact hD
    obtain ⟨_, _, _, _, _, _⟩ : N6p t_5 t := by rw [et_5]; exact nsix (x_fillT_N _ _ _)
    refine lv_goto (tgt := 59) hx hb de_S_tryStep_34 (by decide) ?_
    have hfin : t_5 = x_stp i t := by
      subst_vars; unfold x_stp; first | rw [if_pos c_1] | rw [if_neg c_1]
    rw [hfin] at hP hD
    subst hQ
    exact W.vret hx hb hr (fun t9 ht hW => ⟨⟨(), rfl, trivial, by rw [ht]; exact hP, va_K.moved hW.alike hK, hD⟩, hS.F ht⟩) hS.2.2 de_S_tryStep_59
set_option maxHeartbeats 4000000 in
set_option maxRecDepth 100000 in
theorem mt_S_gather (l : Launch) (dC : Nat → ClassId) (dI : Nat → Nat → Nat) (ad : Nat → Nat) (T : Nat → ClassId) (t : St)  (hI : Iv t) (sz : Nat) : Met l yn_S_gather (.code yn_S_gather cd_S_gather 2 none :: UW) ({ frames := 3, cells := 0, slots := 0, locals := 71 } : Room) (va_Pc [.ref (ad 0)] (Pw (dC, dI) CLS (TY T) (wS ad T t) sz)) (va_Qv (fun _ : Unit => True) (Bw (dC, dI) CLS (TY T) (fun _ : Unit => (wS ad T (x_gath t))) (va_A (wS ad T t) sz)) (va_A (wS ad T t) sz)) 0 0 (va_A (wS ad T t) sz) := by
  refine Met.ofW (cc := cd_S_gather) (maxL := 2) (ret := none) (by decide) rfl ?_
  intro p e s m args below meth c s₁ B hml hv
  obtain ⟨rfl, hsz, hP, hK, hD0, hN⟩ := hv
  have hx := B.exec
  have hb := B.bytes
  have hr := B.returns
  have hts : ∀ w ∈ UW, w.before _ s = true := fun w h => atoms_spec (ws := .code yn_S_gather cd_S_gather 2 none :: UW) B.pre w (List.mem_cons_of_mem _ h)
  have hown : s.vm.findClass "StabilitySums" = some m.cls := findClass_of_methodNamed B.named
  have hlocks := B.notSynchronized
  subst hsz
  have hD := hD0.self (sz := s.heap.size)
  generalize hAe : va_A (wS ad T t) s.heap.size = A at hD ⊢
  have hA : ∀ q : Nat, s.heap.size ≤ q → A q := fun q h => by rw [← hAe]; exact Or.inr h
  have hS : va_S A s.heap s.heap [] := va_S.rf
  have hl := lv_entry ([.ref (ad 0)]) (n := 2) (Nat.le_of_ble_eq_true rfl)
  rw [lg_entry_eq]
  generalize (lg_sl ([.ref (ad 0)]) ++ List.replicate (2 - (lg_sl ([.ref (ad 0)])).length) Slot.unset).toArray = ls at hl ⊢
  have hl : lv_has ls 2 [(0, .ref (ad 0))] := hl
  generalize hQ : MQ below _ _ s 0 0 A = Q
  obtain ⟨hI0, hI1, hI2, hI3, hI4, hI5⟩ := hI
  refine lv_aload_n hx hb de_S_gather_0 rfl (lv_at hl 0 rfl) ?_
  refine va_get (D := (dC, dI)) (ci := 0) (v := .ref (ad 6)) (C := "StabilitySums") (T := TB_S) (N := 10) hx hb hts ui_S hown hK hP 0 rfl rfl 5 (by decide) (hts _ uw_261) (fun _ h9 => h9) rfl de_S_gather_1 ?_
  refine cl_Vv (As := []) (rest := []) ⟨hx, hb, hml, hown, hts⟩ (mt_U_clear l dC dI ad T t ) (cwV 0 hts (uw_V uw_306 uw_307 uw_308 uw_33 uw_309) rfl rfl rfl (by decide +kernel) ⟨Nat.le_of_ble_eq_true rfl, Nat.le_of_ble_eq_true rfl⟩) (va_recv hK hP (ci := 6) (q0 := 6) rfl rfl) rfl hl.1 rfl (Nat.le_of_ble_eq_true rfl) de_S_gather_4 ⟨Nat.zero_le _, Nat.zero_le _⟩ hK hN hP hD hS hA (fun _ H locs hw_1 hP hD hS => ?_)
  obtain ⟨t_2, et_2⟩ : ∃ z, z = x_uclr t := ⟨_, rfl⟩
  have hP : va_P (dC, dI) CLS (wS ad T t_2) H := by rw [et_2]; exact hP
  have hD : va_D A (wS ad T t_2) := by rw [et_2]; exact hD
  obtain ⟨_, _, _, _, _, _⟩ : N6p t_2 t := by rw [et_2]; exact nsix rfl
  refine lv_aload_n hx hb de_S_gather_7 rfl (lv_at hl 0 rfl) ?_
  refine va_get (D := (dC, dI)) (ci := 0) (v := .ref (ad 7)) (C := "StabilitySums") (T := TB_S) (N := 10) hx hb hts ui_S hown hK hP 0 rfl rfl 6 (by decide) (hts _ uw_262) (fun _ h9 => h9) rfl de_S_gather_8 ?_
  refine lv_aload_n hx hb de_S_gather_11 rfl (lv_at hl 0 rfl) ?_
  refine va_get (D := (dC, dI)) (ci := 0) (v := .ref (ad 4)) (C := "StabilitySums") (T := TB_S) (N := 10) hx hb hts ui_S hown hK hP 0 rfl rfl 3 (by decide) (hts _ uw_259) (fun _ h9 => h9) rfl de_S_gather_12 ?_
  refine va_get (D := (dC, dI)) (ci := 4) (v := .int (nI (t_2.2.2.2 3))) (C := "StabilitySums$Limits") (T := TB_L) (N := 4) hx hb hts ui_L hown hK hP 4 rfl rfl 3 (by decide) (hts _ uw_156) (fun _ h9 => h9) rfl de_S_gather_15 ?_
  refine cl_Vv (As := [.int (nI (t_2.2.2.2 3))]) (rest := []) ⟨hx, hb, hml, hown, hts⟩ (mt_C_clear l dC dI ad T t_2 (t_2.2.2.2 3) (show (t_2.2.2.2 3) ≤ 10 from by omega)) (cwV 1 hts (uw_V uw_310 uw_311 uw_312 uw_34 uw_313) rfl rfl rfl (by decide +kernel) ⟨Nat.le_of_ble_eq_true rfl, Nat.le_of_ble_eq_true rfl⟩) (va_recv hK hP (ci := 7) (q0 := 7) rfl rfl) rfl hl.1 rfl (Nat.le_of_ble_eq_true rfl) de_S_gather_18 ⟨Nat.zero_le _, Nat.zero_le _⟩ hK hN hP hD hS hA (fun _ H locs hw_3 hP hD hS => ?_)
  obtain ⟨t_4, et_4⟩ : ∃ z, z = x_cclr ((t_2.2.2.2 3) + 1) 0 (sN t_2 5 (t_2.2.2.2 3)) := ⟨_, rfl⟩
  have hP : va_P (dC, dI) CLS (wS ad T t_4) H := by rw [et_4]; exact hP
  have hD : va_D A (wS ad T t_4) := by rw [et_4]; exact hD
  obtain ⟨_, _, _, _, _, _⟩ : t_4.2.2.2 0 = t.2.2.2 0 ∧ t_4.2.2.2 1 = t.2.2.2 1 ∧ t_4.2.2.2 2 = t.2.2.2 2 ∧ t_4.2.2.2 3 = t.2.2.2 3 ∧ t_4.2.2.2 4 = t.2.2.2 4 ∧ t_4.2.2.2 5 = t.2.2.2 3 := by rw [et_4, x_cclr_N]; subst_vars; exact ⟨rfl, rfl, rfl, rfl, rfl, rfl⟩
  refine lv_iconst (v := 0) hx hb de_S_gather_21 (by decide) ?_
  refine lv_istore_n (lv' := [(1, .int 0), (0, .ref (ad 0))]) hx hb de_S_gather_22 rfl hl (by decide) rfl (fun ls hl => ?_)
  have loop_23 : ∀ (n : Nat) (i : Nat) (t1 : St), (i + n = t.2.2.2 0) → (N6p t1 t_4) → (x_gw n i t1 = x_gw (t.2.2.2 0) 0 t_4) → ∀ (H : Heap) (locs : List Loc) (ls : Array Slot), va_P (dC, dI) CLS (wS ad T t1) H → va_D A (wS ad T t1) → va_S A s.heap H locs → lv_has ls 2 [(0, .ref (ad 0)), (1, .int (nI i))] → W p l e (headSpec (.code yn_S_gather cd_S_gather 2 none :: UW) ({ frames := 3, cells := 0, slots := 0, locals := 71 } : Room)).room s m ([.ref (ad 0)] : List Value).toArray below meth c H locs 0 0 Q (F0 m 23 ls []) := by
    intro n
    induction n with
    | zero =>
      intro i t1 hi hk hq H locs ls hP hD hS hl
      obtain ⟨_, _, _, _, _, _⟩ := hk
      refine lv_iload_n hx hb de_S_gather_23 rfl (lv_at hl 1 rfl) ?_
      refine lv_aload_n hx hb de_S_gather_24 rfl (lv_at hl 0 rfl) ?_
      refine va_get (D := (dC, dI)) (ci := 0) (v := .ref (ad 1)) (C := "StabilitySums") (T := TB_S) (N := 10) hx hb hts ui_S hown hK hP 0 rfl rfl 0 (by decide) (hts _ uw_256) (fun _ h9 => h9) rfl de_S_gather_25 ?_
      refine va_get (D := (dC, dI)) (ci := 1) (v := .int (nI (t1.2.2.2 0))) (C := "StabilitySums$Weights") (T := TB_W) (N := 5) hx hb hts ui_W hown hK hP 1 rfl rfl 4 (by decide) (hts _ uw_68) (fun _ h9 => h9) rfl de_S_gather_28 ?_
      refine lv_icmp_ge (tgt := 54) hx hb de_S_gather_31 (by decide) (fun c_5 => ?_) (fun c_5 => ?_)
      · skip
        have c_5 : (t1.2.2.2 0) ≤ i := (nI_leI (a := (t1.2.2.2 0)) (b := i) (by omega) (by omega)).mp c_5
        refine lv_iconst (v := 0) hx hb de_S_gather_54 (by decide) ?_
        refine lv_istore_n (lv' := [(1, .int 0), (0, .ref (ad 0))]) hx hb de_S_gather_55 rfl hl (by decide) rfl (fun ls hl => ?_)
        have loop_56 : ∀ (n : Nat) (i : Nat) (t2 : St), (i + n = t.2.2.2 1) → (N6p t2 t1) → (x_gt n i t2 = x_gath t) → ∀ (H : Heap) (locs : List Loc) (ls : Array Slot), va_P (dC, dI) CLS (wS ad T t2) H → va_D A (wS ad T t2) → va_S A s.heap H locs → lv_has ls 2 [(0, .ref (ad 0)), (1, .int (nI i))] → W p l e (headSpec (.code yn_S_gather cd_S_gather 2 none :: UW) ({ frames := 3, cells := 0, slots := 0, locals := 71 } : Room)).room s m ([.ref (ad 0)] : List Value).toArray below meth c H locs 0 0 Q (F0 m 56 ls []) := by
          intro n
          induction n with
          | zero =>
            intro i t2 hi2 hk2 hq2 H locs ls hP hD hS hl
            obtain ⟨_, _, _, _, _, _⟩ := hk2
            refine lv_iload_n hx hb de_S_gather_56 rfl (lv_at hl 1 rfl) ?_
            refine lv_aload_n hx hb de_S_gather_57 rfl (lv_at hl 0 rfl) ?_
            refine va_get (D := (dC, dI)) (ci := 0) (v := .ref (ad 2)) (C := "StabilitySums") (T := TB_S) (N := 10) hx hb hts ui_S hown hK hP 0 rfl rfl 1 (by decide) (hts _ uw_257) (fun _ h9 => h9) rfl de_S_gather_58 ?_
            refine va_get (D := (dC, dI)) (ci := 2) (v := .int (nI (t2.2.2.2 1))) (C := "StabilitySums$Tanks") (T := TB_T) (N := 9) hx hb hts ui_T hown hK hP 2 rfl rfl 8 (by decide) (hts _ uw_103) (fun _ h9 => h9) rfl de_S_gather_61 ?_
            refine lv_icmp_ge (tgt := 97) hx hb de_S_gather_64 (by decide) (fun c_6 => ?_) (fun c_6 => ?_)
            · skip
              have c_6 : (t2.2.2.2 1) ≤ i := (nI_leI (a := (t2.2.2.2 1)) (b := i) (by omega) (by omega)).mp c_6
              have hfin : t2 = x_gath t := by
                exact hq2
              rw [hfin] at hP hD
              subst hQ
              exact W.vret hx hb hr (fun t9 ht hW => ⟨⟨(), rfl, trivial, by rw [ht]; exact hP, va_K.moved hW.alike hK, hD⟩, hS.F ht⟩) hS.2.2 de_S_gather_97
            · skip
              have c_6 : ¬ ((t2.2.2.2 1) ≤ i) := fun z => c_6 ((nI_leI (a := (t2.2.2.2 1)) (b := i) (by omega) (by omega)).mpr z)
              exfalso; omega
          | succ n ih =>
            intro i t2 hi2 hk2 hq2 H locs ls hP hD hS hl
            obtain ⟨_, _, _, _, _, _⟩ := hk2
            refine lv_iload_n hx hb de_S_gather_56 rfl (lv_at hl 1 rfl) ?_
            refine lv_aload_n hx hb de_S_gather_57 rfl (lv_at hl 0 rfl) ?_
            refine va_get (D := (dC, dI)) (ci := 0) (v := .ref (ad 2)) (C := "StabilitySums") (T := TB_S) (N := 10) hx hb hts ui_S hown hK hP 0 rfl rfl 1 (by decide) (hts _ uw_257) (fun _ h9 => h9) rfl de_S_gather_58 ?_
            refine va_get (D := (dC, dI)) (ci := 2) (v := .int (nI (t2.2.2.2 1))) (C := "StabilitySums$Tanks") (T := TB_T) (N := 9) hx hb hts ui_T hown hK hP 2 rfl rfl 8 (by decide) (hts _ uw_103) (fun _ h9 => h9) rfl de_S_gather_61 ?_
            refine lv_icmp_ge (tgt := 97) hx hb de_S_gather_64 (by decide) (fun c_7 => ?_) (fun c_7 => ?_)
            · skip
              have c_7 : (t2.2.2.2 1) ≤ i := (nI_leI (a := (t2.2.2.2 1)) (b := i) (by omega) (by omega)).mp c_7
              exfalso; omega
            · skip
              have c_7 : ¬ ((t2.2.2.2 1) ≤ i) := fun z => c_7 ((nI_leI (a := (t2.2.2.2 1)) (b := i) (by omega) (by omega)).mpr z)
              refine lv_aload_n hx hb de_S_gather_67 rfl (lv_at hl 0 rfl) ?_
              refine va_get (D := (dC, dI)) (ci := 0) (v := .ref (ad 2)) (C := "StabilitySums") (T := TB_S) (N := 10) hx hb hts ui_S hown hK hP 0 rfl rfl 1 (by decide) (hts _ uw_257) (fun _ h9 => h9) rfl de_S_gather_68 ?_
              refine va_get (D := (dC, dI)) (ci := 2) (v := .ref (ad 19)) (C := "StabilitySums$Tanks") (T := TB_T) (N := 9) hx hb hts ui_T hown hK hP 2 rfl rfl 6 (by decide) (hts _ uw_99) (fun _ h9 => h9) rfl de_S_gather_71 ?_
              refine lv_iload_n hx hb de_S_gather_74 rfl (lv_at hl 1 rfl) ?_
              refine lv_lconst (v := 0) hx hb de_S_gather_75 (by decide) ?_
              refine rw_last (f := t2.1 10) (j := i) (x := 0) hx hb hK hP hD hS 19 0 rfl rfl (by omega) (by decide) de_S_gather_76 (fun H locs hP hD hS => ?_)
              have hP : va_P (dC, dI) CLS (wS ad T (sL t2 10 i 0)) H := hP
              have hD : va_D A (wS ad T (sL t2 10 i 0)) := hD
              refine lv_aload_n hx hb de_S_gather_77 rfl (lv_at hl 0 rfl) ?_
              refine lv_iload_n hx hb de_S_gather_78 rfl (lv_at hl 1 rfl) ?_
              refine lv_aload_n hx hb de_S_gather_79 rfl (lv_at hl 0 rfl) ?_
              refine va_get (D := (dC, dI)) (ci := 0) (v := .ref (ad 2)) (C := "StabilitySums") (T := TB_S) (N := 10) hx hb hts ui_S hown hK hP 0 rfl rfl 1 (by decide) (hts _ uw_257) (fun _ h9 => h9) rfl de_S_gather_80 ?_
              refine va_get (D := (dC, dI)) (ci := 2) (v := .ref (ad 18)) (C := "StabilitySums$Tanks") (T := TB_T) (N := 9) hx hb hts ui_T hown hK hP 2 rfl rfl 5 (by decide) (hts _ uw_97) (fun _ h9 => h9) rfl de_S_gather_83 ?_
              refine lv_iload_n hx hb de_S_gather_86 rfl (lv_at hl 1 rfl) ?_
              refine rw_lald (f := t2.1 9) (j := i) hx hb hK hP 18 0 rfl rfl (by omega) (by decide) de_S_gather_87 ?_
              refine cl_Vv (As := [.int (nI i), .long (t2.1 9 i)]) (rest := []) ⟨hx, hb, hml, hown, hts⟩ (mt_S_tryFilling l dC dI ad T (sL t2 10 i 0) i (t2.1 9 i) (show Iv t2 from (by refine ⟨?_, ?_, ?_, ?_, ?_, ?_⟩ <;> omega)) (show i < 4 from by omega)) (cwV 2 hts (uw_V uw_329 uw_331 uw_2 uw_27 uw_332) rfl rfl rfl (by decide +kernel) ⟨Nat.le_of_ble_eq_true rfl, Nat.le_of_ble_eq_true rfl⟩) (va_recv hK hP (ci := 0) (q0 := 0) rfl rfl) rfl hl.1 rfl (Nat.le_of_ble_eq_true rfl) de_S_gather_88 ⟨Nat.zero_le _, Nat.zero_le _⟩ hK hN hP hD hS hA (fun _ H locs hw_8 hP hD hS => ?_)
              obtain ⟨t_9, et_9⟩ : ∃ z, z = x_fillT i (t2.1 9 i) (sL t2 10 i 0) := ⟨_, rfl⟩
              have hP : va_P (dC, dI) CLS (wS ad T t_9) H := by rw [et_9]; exact hP
              have hD : va_D A (wS ad T t_9) := by rw [et_9]; exact hD
              obtain ⟨_, _, _, _, _, _⟩ : N6p t_9 t2 := by rw [et_9]; exact nsix (x_fillT_N _ _ _)
              refine lv_iinc (v := (nI (i + 1))) (lv' := [(1, .int (nI (i + 1))), (0, .ref (ad 0))]) hx hb de_S_gather_91 hl (k := 1) rfl (nI_1 i) (by decide) rfl (fun ls hl => ?_)
              refine lv_goto (tgt := 56) hx hb de_S_gather_94 (by decide) ?_
              exact ih (i + 1) t_9 (by omega) (by refine ⟨?_, ?_, ?_, ?_, ?_, ?_⟩ <;> omega) (by rw [← hq2, x_gt, et_9]) H locs ls hP hD hS (lv_sub hl [1, 0] rfl)
        exact loop_56 (t.2.2.2 1) 0 t1 (by omega) (nsix rfl) (by have h1 : t1 = _ := hq; rw [h1]; subst_vars; rfl) _ _ ls hP hD hS (lv_sub hl [1, 0] rfl)
      · skip
        have c_5 : ¬ ((t1.2.2.2 0) ≤ i) := fun z => c_5 ((nI_leI (a := (t1.2.2.2 0)) (b := i) (by omega) (by omega)).mpr z)
        exfalso; omega
    | succ n ih =>
      intro i t1 hi hk hq H locs ls hP hD hS hl
      obtain ⟨_, _, _, _, _, _⟩ := hk
      refine lv_iload_n hx hb de_S_gather_23 rfl (lv_at hl 1 rfl) ?_
      refine lv_aload_n hx hb de_S_gather_24 rfl (lv_at hl 0 rfl) ?_
      refine va_get (D := (dC, dI)) (ci := 0) (v := .ref (ad 1)) (C := "StabilitySums") (T := TB_S) (N := 10) hx hb hts ui_S hown hK hP 0 rfl rfl 0 (by decide) (hts _ uw_256) (fun _ h9 => h9) rfl de_S_gather_25 ?_
      refine va_get (D := (dC, dI)) (ci := 1) (v := .int (nI (t1.2.2.2 0))) (C := "StabilitySums$Weights") (T := TB_W) (N := 5) hx hb hts ui_W hown hK hP 1 rfl rfl 4 (by decide) (hts _ uw_68) (fun _ h9 => h9) rfl de_S_gather_28 ?_
      refine lv_icmp_ge (tgt := 54) hx hb de_S_gather_31 (by decide) (fun c_10 => ?_) (fun c_10 => ?_)
      · skip
        have c_10 : (t1.2.2.2 0) ≤ i := (nI_leI (a := (t1.2.2.2 0)) (b := i) (by omega) (by omega)).mp c_10
        exfalso; omega
      · skip
        have c_10 : ¬ ((t1.2.2.2 0) ≤ i) := fun z => c_10 ((nI_leI (a := (t1.2.2.2 0)) (b := i) (by omega) (by omega)).mpr z)
        refine lv_aload_n hx hb de_S_gather_34 rfl (lv_at hl 0 rfl) ?_
        refine lv_iload_n hx hb de_S_gather_35 rfl (lv_at hl 1 rfl) ?_
        refine lv_aload_n hx hb de_S_gather_36 rfl (lv_at hl 0 rfl) ?_
        refine va_get (D := (dC, dI)) (ci := 0) (v := .ref (ad 1)) (C := "StabilitySums") (T := TB_S) (N := 10) hx hb hts ui_S hown hK hP 0 rfl rfl 0 (by decide) (hts _ uw_256) (fun _ h9 => h9) rfl de_S_gather_37 ?_
        refine va_get (D := (dC, dI)) (ci := 1) (v := .ref (ad 9)) (C := "StabilitySums$Weights") (T := TB_W) (N := 5) hx hb hts ui_W hown hK hP 1 rfl rfl 0 (by decide) (hts _ uw_60) (fun _ h9 => h9) rfl de_S_gather_40 ?_
        refine lv_iload_n hx hb de_S_gather_43 rfl (lv_at hl 1 rfl) ?_
        refine rw_lald (f := t1.1 0) (j := i) hx hb hK hP 9 0 rfl rfl (by omega) (by decide) de_S_gather_44 ?_
        refine cl_Vv (As := [.int (nI i), .long (t1.1 0 i)]) (rest := []) ⟨hx, hb, hml, hown, hts⟩ (mt_S_tryMore l dC dI ad T t1 i (t1.1 0 i) (show Iv t1 from (by refine ⟨?_, ?_, ?_, ?_, ?_, ?_⟩ <;> omega)) (show i < 40 from by omega)) (cwV 2 hts (uw_V uw_317 uw_319 uw_1 uw_27 uw_320) rfl rfl rfl (by decide +kernel) ⟨Nat.le_of_ble_eq_true rfl, Nat.le_of_ble_eq_true rfl⟩) (va_recv hK hP (ci := 0) (q0 := 0) rfl rfl) rfl hl.1 rfl (Nat.le_of_ble_eq_true rfl) de_S_gather_45 ⟨Nat.zero_le _, Nat.zero_le _⟩ hK hN hP hD hS hA (fun _ H locs hw_11 hP hD hS => ?_)
        obtain ⟨t_12, et_12⟩ : ∃ z, z = x_more i (t1.1 0 i) t1 := ⟨_, rfl⟩
        have hP : va_P (dC, dI) CLS (wS ad T t_12) H := by rw [et_12]; exact hP
        have hD : va_D A (wS ad T t_12) := by rw [et_12]; exact hD
        obtain ⟨_, _, _, _, _, _⟩ : N6p t_12 t1 := by rw [et_12]; exact nsix (x_more_N _ _ _)
        refine lv_iinc (v := (nI (i + 1))) (lv' := [(1, .int (nI (i + 1))), (0, .ref (ad 0))]) hx hb de_S_gather_48 hl (k := 1) rfl (nI_1 i) (by decide) rfl (fun ls hl => ?_)
        refine lv_goto (tgt := 23) hx hb de_S_gather_51 (by decide) ?_
        exact ih (i + 1) t_12 (by omega) (by refine ⟨?_, ?_, ?_, ?_, ?_, ?_⟩ <;> omega) (by rw [← hq, x_gw, et_12]) H locs ls hP hD hS (lv_sub hl [1, 0] rfl)
  exact loop_23 (t.2.2.2 0) 0 t_4 (by omega) (nsix rfl) rfl _ _ ls hP hD hS (lv_sub hl [1, 0] rfl)
set_option maxHeartbeats 4000000 in
set_option maxRecDepth 100000 in
theorem mt_S_isWithoutAnswer (l : Launch) (dC : Nat → ClassId) (dI : Nat → Nat → Nat) (ad : Nat → Nat) (T : Nat → ClassId) (t : St) (a0 : Int32)  (sz : Nat) : Met l yn_S_isWithoutAnswer (.code yn_S_isWithoutAnswer cd_S_isWithoutAnswer 2 (some .boolean) :: UW) ({ frames := 0, cells := 0, slots := 0, locals := 0 } : Room) (va_Pc [.ref (ad 0), .int a0] (Pw (dC, dI) CLS (TY T) (wS ad T t) sz)) (va_Qi (fun (r : Int32) (_ : Unit) => bz r (x_noans a0 t)) (Bw (dC, dI) CLS (TY T) (fun _ : Unit => (wS ad T t)) (va_A (wS ad T t) sz)) (va_A (wS ad T t) sz)) 0 0 (va_A (wS ad T t) sz) := by
  refine Met.ofW (cc := cd_S_isWithoutAnswer) (maxL := 2) (ret := (some .boolean)) (by decide) rfl ?_
  intro p e s m args below meth c s₁ B hml hv
  obtain ⟨rfl, hsz, hP, hK, hD0, hN⟩ := hv
  have hx := B.exec
  have hb := B.bytes
  have hr := B.returns
  have hts : ∀ w ∈ UW, w.before _ s = true := fun w h => atoms_spec (ws := .code yn_S_isWithoutAnswer cd_S_isWithoutAnswer 2 (some .boolean) :: UW) B.pre w (List.mem_cons_of_mem _ h)
  have hown : s.vm.findClass "StabilitySums" = some m.cls := findClass_of_methodNamed B.named
  have hlocks := B.notSynchronized
  subst hsz
  have hD := hD0.self (sz := s.heap.size)
  generalize hAe : va_A (wS ad T t) s.heap.size = A at hD ⊢
  have hA : ∀ q : Nat, s.heap.size ≤ q → A q := fun q h => by rw [← hAe]; exact Or.inr h
  have hS : va_S A s.heap s.heap [] := va_S.rf
  have hl := lv_entry ([.ref (ad 0), .int a0]) (n := 2) (Nat.le_of_ble_eq_true rfl)
  rw [lg_entry_eq]
  generalize (lg_sl ([.ref (ad 0), .int a0]) ++ List.replicate (2 - (lg_sl ([.ref (ad 0), .int a0])).length) Slot.unset).toArray = ls at hl ⊢
  have hl : lv_has ls 2 [(0, .ref (ad 0)), (1, .int a0)] := hl
  generalize hQ : MQ below _ _ s 0 0 A = Q
  refine lv_aload_n hx hb de_S_isWithoutAnswer_0 rfl (lv_at hl 0 rfl) ?_
  refine va_get (D := (dC, dI)) (ci := 0) (v := .ref (ad 6)) (C := "StabilitySums") (T := TB_S) (N := 10) hx hb hts ui_S hown hK hP 0 rfl rfl 5 (by decide) (hts _ uw_261) (fun _ h9 => h9) rfl de_S_isWithoutAnswer_1 ?_
  refine va_get (D := (dC, dI)) (ci := 6) (v := .long (t.2.2.1 2)) (C := "StabilitySums$Sums") (T := TB_U) (N := 5) hx hb hts ui_U hown hK hP 6 rfl rfl 0 (by decide) (hts _ uw_198) (fun _ h9 => h9) rfl de_S_isWithoutAnswer_4 ?_
  refine lv_lconst (v := 0) hx hb de_S_isWithoutAnswer_7 (by decide) ?_
  refine rw_ne (tgt := 26) hx hb de_S_isWithoutAnswer_8 de_S_isWithoutAnswer_9 (by decide) (fun c_1 => ?_) (fun c_1 => ?_)
  · skip
    refine lv_iconst (v := 0) hx hb de_S_isWithoutAnswer_26 (by decide) ?_
    subst hQ
    have hpost : bz 0 (x_noans a0 t) := by
      first | exact Or.inl ⟨rfl, by simp only [x_noans]; grind⟩ | exact Or.inr ⟨rfl, by simp only [x_noans]; grind⟩
    exact W.zret (v := 0) hx hb hr (bz_nar hpost) (fun t9 ht hW => ⟨⟨0, (), rfl, hpost, by rw [ht]; exact hP, va_K.moved hW.alike hK, hD⟩, hS.F ht⟩) hS.2.2 de_S_isWithoutAnswer_27
  · skip
    refine lv_iload_n hx hb de_S_isWithoutAnswer_12 rfl (lv_at hl 1 rfl) ?_
    refine lv_if_eq (tgt := 26) hx hb de_S_isWithoutAnswer_13 (by decide) (fun c_2 => ?_) (fun c_2 => ?_)
    · skip
      refine lv_iconst (v := 0) hx hb de_S_isWithoutAnswer_26 (by decide) ?_
      subst hQ
      have hpost : bz 0 (x_noans a0 t) := by
        first | exact Or.inl ⟨rfl, by simp only [x_noans]; grind⟩ | exact Or.inr ⟨rfl, by simp only [x_noans]; grind⟩
      exact W.zret (v := 0) hx hb hr (bz_nar hpost) (fun t9 ht hW => ⟨⟨0, (), rfl, hpost, by rw [ht]; exact hP, va_K.moved hW.alike hK, hD⟩, hS.F ht⟩) hS.2.2 de_S_isWithoutAnswer_27
    · skip
      refine lv_iload_n hx hb de_S_isWithoutAnswer_16 rfl (lv_at hl 1 rfl) ?_
      refine lv_bipush (v := 6) hx hb de_S_isWithoutAnswer_17 (by decide) ?_
      refine lv_icmp_eq (tgt := 26) hx hb de_S_isWithoutAnswer_19 (by decide) (fun c_3 => ?_) (fun c_3 => ?_)
      · skip
        refine lv_iconst (v := 0) hx hb de_S_isWithoutAnswer_26 (by decide) ?_
        subst hQ
        have hpost : bz 0 (x_noans a0 t) := by
          first | exact Or.inl ⟨rfl, by simp only [x_noans]; grind⟩ | exact Or.inr ⟨rfl, by simp only [x_noans]; grind⟩
        exact W.zret (v := 0) hx hb hr (bz_nar hpost) (fun t9 ht hW => ⟨⟨0, (), rfl, hpost, by rw [ht]; exact hP, va_K.moved hW.alike hK, hD⟩, hS.F ht⟩) hS.2.2 de_S_isWithoutAnswer_27
      · skip
        refine lv_iconst (v := 1) hx hb de_S_isWithoutAnswer_22 (by decide) ?_
        refine lv_goto (tgt := 27) hx hb de_S_isWithoutAnswer_23 (by decide) ?_
        subst hQ
        have hpost : bz 1 (x_noans a0 t) := by
          first | exact Or.inl ⟨rfl, by simp only [x_noans]; grind⟩ | exact Or.inr ⟨rfl, by simp only [x_noans]; grind⟩
        exact W.zret (v := 1) hx hb hr (bz_nar hpost) (fun t9 ht hW => ⟨⟨1, (), rfl, hpost, by rw [ht]; exact hP, va_K.moved hW.alike hK, hD⟩, hS.F ht⟩) hS.2.2 de_S_isWithoutAnswer_27
set_option maxHeartbeats 4000000 in
set_option maxRecDepth 100000 in
theorem mt_S_work (l : Launch) (dC : Nat → ClassId) (dI : Nat → Nat → Nat) (ad : Nat → Nat) (T : Nat → ClassId) (t : St) (a0 : Int32) (hI : Iv t) (sz : Nat) : Met l yn_S_work (.code yn_S_work cd_S_work 4 none :: UW) ({ frames := 2, cells := 0, slots := 0, locals := 55 } : Room) (va_Pc [.ref (ad 0), .int a0] (Pw (dC, dI) CLS (TY T) (wS ad T t) sz)) (va_Qv (fun _ : Unit => True) (Bw (dC, dI) CLS (TY T) (fun _ : Unit => (wS ad T (x_work a0 t))) (va_A (wS ad T t) sz)) (va_A (wS ad T t) sz)) 0 0 (va_A (wS ad T t) sz) := by
  refine Met.ofW (cc := cd_S_work) (maxL := 4) (ret := none) (by decide) rfl ?_
  intro p e s m args below meth c s₁ B hml hv
  obtain ⟨rfl, hsz, hP, hK, hD0, hN⟩ := hv
  have hx := B.exec
  have hb := B.bytes
  have hr := B.returns
  have hts : ∀ w ∈ UW, w.before _ s = true := fun w h => atoms_spec (ws := .code yn_S_work cd_S_work 4 none :: UW) B.pre w (List.mem_cons_of_mem _ h)
  have hown : s.vm.findClass "StabilitySums" = some m.cls := findClass_of_methodNamed B.named
  have hlocks := B.notSynchronized
  subst hsz
  have hD := hD0.self (sz := s.heap.size)
  generalize hAe : va_A (wS ad T t) s.heap.size = A at hD ⊢
  have hA : ∀ q : Nat, s.heap.size ≤ q → A q := fun q h => by rw [← hAe]; exact Or.inr h
  have hS : va_S A s.heap s.heap [] := va_S.rf
  have hl := lv_entry ([.ref (ad 0), .int a0]) (n := 4) (Nat.le_of_ble_eq_true rfl)
  rw [lg_entry_eq]
  generalize (lg_sl ([.ref (ad 0), .int a0]) ++ List.replicate (4 - (lg_sl ([.ref (ad 0), .int a0])).length) Slot.unset).toArray = ls at hl ⊢
  have hl : lv_has ls 4 [(0, .ref (ad 0)), (1, .int a0)] := hl
  generalize hQ : MQ below _ _ s 0 0 A = Q
  obtain ⟨hI0, hI1, hI2, hI3, hI4, hI5⟩ := hI
  refine lv_aload_n hx hb de_S_work_0 rfl (lv_at hl 0 rfl) ?_
  refine va_get (D := (dC, dI)) (ci := 0) (v := .ref (ad 6)) (C := "StabilitySums") (T := TB_S) (N := 10) hx hb hts ui_S hown hK hP 0 rfl rfl 5 (by decide) (hts _ uw_261) (fun _ h9 => h9) rfl de_S_work_1 ?_
  refine va_get (D := (dC, dI)) (ci := 6) (v := .long (t.2.2.1 2)) (C := "StabilitySums$Sums") (T := TB_U) (N := 5) hx hb hts ui_U hown hK hP 6 rfl rfl 0 (by decide) (hts _ uw_198) (fun _ h9 => h9) rfl de_S_work_4 ?_
  refine lv_lstore_n (lv' := [(2, .long (t.2.2.1 2)), (0, .ref (ad 0)), (1, .int a0)]) hx hb de_S_work_7 rfl hl (by decide) rfl (fun ls hl => ?_)
  refine lv_iload_n hx hb de_S_work_8 rfl (lv_at hl 2 rfl) ?_
  by_cases c_1_1 : a0 = 1
  · skip
    refine lv_tableIn (tgt := 52) hx hb de_S_work_9 (by rw [c_1_1]; decide) (by rw [c_1_1]; decide) (by rw [c_1_1]; rfl) (by decide) ?_
    refine lv_aload_n hx hb de_S_work_52 rfl (lv_at hl 1 rfl) ?_
    refine va_get (D := (dC, dI)) (ci := 0) (v := .ref (ad 8)) (C := "StabilitySums") (T := TB_S) (N := 10) hx hb hts ui_S hown hK hP 0 rfl rfl 7 (by decide) (hts _ uw_263) (fun _ h9 => h9) rfl de_S_work_53 ?_
    refine lv_aload_n hx hb de_S_work_56 rfl (lv_at hl 1 rfl) ?_
    refine va_get (D := (dC, dI)) (ci := 0) (v := .ref (ad 6)) (C := "StabilitySums") (T := TB_S) (N := 10) hx hb hts ui_S hown hK hP 0 rfl rfl 5 (by decide) (hts _ uw_261) (fun _ h9 => h9) rfl de_S_work_57 ?_
    refine va_get (D := (dC, dI)) (ci := 6) (v := .long (t.2.2.1 3)) (C := "StabilitySums$Sums") (T := TB_U) (N := 5) hx hb hts ui_U hown hK hP 6 rfl rfl 1 (by decide) (hts _ uw_200) (fun _ h9 => h9) rfl de_S_work_60 ?_
    refine lv_lload_n hx hb de_S_work_63 rfl (lv_at hl 0 rfl) ?_
    refine cl_Vv (As := [.long (t.2.2.1 3), .long (t.2.2.1 2)]) (rest := []) ⟨hx, hb, hml, hown, hts⟩ (mt_F_put l dC dI ad T t (t.2.2.1 3) (t.2.2.1 2)) (cwV 2 hts (uw_V uw_376 uw_377 uw_378 uw_35 uw_379) rfl rfl rfl (by decide +kernel) ⟨Nat.le_of_ble_eq_true rfl, Nat.le_of_ble_eq_true rfl⟩) (va_recv hK hP (ci := 8) (q0 := 8) rfl rfl) rfl hl.1 rfl (Nat.le_of_ble_eq_true rfl) de_S_work_64 ⟨Nat.zero_le _, Nat.zero_le _⟩ hK hN hP hD hS hA (fun _ H locs hw_2 hP hD hS => ?_)
    obtain ⟨t_3, et_3⟩ : ∃ z, z = x_put (t.2.2.1 3) (t.2.2.1 2) t := ⟨_, rfl⟩
    have hP : va_P (dC, dI) CLS (wS ad T t_3) H := by rw [et_3]; exact hP
    have hD : va_D A (wS ad T t_3) := by rw [et_3]; exact hD
    obtain ⟨_, _, _, _, _, _⟩ : N6p t_3 t := by rw [et_3]; exact nsix (x_put_N _ _ _)
    refine lv_goto (tgt := 272) hx hb de_S_work_67 (by decide) ?_
    have hfin : t_3 = x_work a0 t := by
      first | (subst_vars; rfl) | (subst_vars; simp only [x_work, c_1_1, ↓reduceIte])
    rw [hfin] at hP hD
    subst hQ
    exact W.vret hx hb hr (fun t9 ht hW => ⟨⟨(), rfl, trivial, by rw [ht]; exact hP, va_K.moved hW.alike hK, hD⟩, hS.F ht⟩) hS.2.2 de_S_work_272
  by_cases c_1_2 : a0 = 2
  · skip
    refine lv_tableIn (tgt := 70) hx hb de_S_work_9 (by rw [c_1_2]; decide) (by rw [c_1_2]; decide) (by rw [c_1_2]; rfl) (by decide) ?_
    refine lv_aload_n hx hb de_S_work_70 rfl (lv_at hl 1 rfl) ?_
    refine va_get (D := (dC, dI)) (ci := 0) (v := .ref (ad 8)) (C := "StabilitySums") (T := TB_S) (N := 10) hx hb hts ui_S hown hK hP 0 rfl rfl 7 (by decide) (hts _ uw_263) (fun _ h9 => h9) rfl de_S_work_71 ?_
    refine lv_aload_n hx hb de_S_work_74 rfl (lv_at hl 1 rfl) ?_
    refine va_get (D := (dC, dI)) (ci := 0) (v := .ref (ad 6)) (C := "StabilitySums") (T := TB_S) (N := 10) hx hb hts ui_S hown hK hP 0 rfl rfl 5 (by decide) (hts _ uw_261) (fun _ h9 => h9) rfl de_S_work_75 ?_
    refine va_get (D := (dC, dI)) (ci := 6) (v := .long (t.2.2.1 4)) (C := "StabilitySums$Sums") (T := TB_U) (N := 5) hx hb hts ui_U hown hK hP 6 rfl rfl 2 (by decide) (hts _ uw_202) (fun _ h9 => h9) rfl de_S_work_78 ?_
    refine lv_lload_n hx hb de_S_work_81 rfl (lv_at hl 0 rfl) ?_
    refine cl_Vv (As := [.long (t.2.2.1 4), .long (t.2.2.1 2)]) (rest := []) ⟨hx, hb, hml, hown, hts⟩ (mt_F_put l dC dI ad T t (t.2.2.1 4) (t.2.2.1 2)) (cwV 2 hts (uw_V uw_376 uw_377 uw_378 uw_35 uw_379) rfl rfl rfl (by decide +kernel) ⟨Nat.le_of_ble_eq_true rfl, Nat.le_of_ble_eq_true rfl⟩) (va_recv hK hP (ci := 8) (q0 := 8) rfl rfl) rfl hl.1 rfl (Nat.le_of_ble_eq_true rfl) de_S_work_82 ⟨Nat.zero_le _, Nat.zero_le _⟩ hK hN hP hD hS hA (fun _ H locs hw_4 hP hD hS => ?_)
    obtain ⟨t_5, et_5⟩ : ∃ z, z = x_put (t.2.2.1 4) (t.2.2.1 2) t := ⟨_, rfl⟩
    have hP : va_P (dC, dI) CLS (wS ad T t_5) H := by rw [et_5]; exact hP
    have hD : va_D A (wS ad T t_5) := by rw [et_5]; exact hD
    obtain ⟨_, _, _, _, _, _⟩ : N6p t_5 t := by rw [et_5]; exact nsix (x_put_N _ _ _)
    refine lv_goto (tgt := 272) hx hb de_S_work_85 (by decide) ?_
    have hfin : t_5 = x_work a0 t := by
      first | (subst_vars; rfl) | (subst_vars; simp only [x_work, c_1_2, ↓reduceIte])
    rw [hfin] at hP hD
    subst hQ
    exact W.vret hx hb hr (fun t9 ht hW => ⟨⟨(), rfl, trivial, by rw [ht]; exact hP, va_K.moved hW.alike hK, hD⟩, hS.F ht⟩) hS.2.2 de_S_work_272
  by_cases c_1_3 : a0 = 3
  · skip
    refine lv_tableIn (tgt := 88) hx hb de_S_work_9 (by rw [c_1_3]; decide) (by rw [c_1_3]; decide) (by rw [c_1_3]; rfl) (by decide) ?_
    refine lv_aload_n hx hb de_S_work_88 rfl (lv_at hl 1 rfl) ?_
    refine va_get (D := (dC, dI)) (ci := 0) (v := .ref (ad 8)) (C := "StabilitySums") (T := TB_S) (N := 10) hx hb hts ui_S hown hK hP 0 rfl rfl 7 (by decide) (hts _ uw_263) (fun _ h9 => h9) rfl de_S_work_89 ?_
    refine lv_aload_n hx hb de_S_work_92 rfl (lv_at hl 1 rfl) ?_
    refine va_get (D := (dC, dI)) (ci := 0) (v := .ref (ad 6)) (C := "StabilitySums") (T := TB_S) (N := 10) hx hb hts ui_S hown hK hP 0 rfl rfl 5 (by decide) (hts _ uw_261) (fun _ h9 => h9) rfl de_S_work_93 ?_
    refine va_get (D := (dC, dI)) (ci := 6) (v := .long (t.2.2.1 5)) (C := "StabilitySums$Sums") (T := TB_U) (N := 5) hx hb hts ui_U hown hK hP 6 rfl rfl 3 (by decide) (hts _ uw_204) (fun _ h9 => h9) rfl de_S_work_96 ?_
    refine lv_lload_n hx hb de_S_work_99 rfl (lv_at hl 0 rfl) ?_
    refine cl_Vv (As := [.long (t.2.2.1 5), .long (t.2.2.1 2)]) (rest := []) ⟨hx, hb, hml, hown, hts⟩ (mt_F_put l dC dI ad T t (t.2.2.1 5) (t.2.2.1 2)) (cwV 2 hts (uw_V uw_376 uw_377 uw_378 uw_35 uw_379) rfl rfl rfl (by decide +kernel) ⟨Nat.le_of_ble_eq_true rfl, Nat.le_of_ble_eq_true rfl⟩) (va_recv hK hP (ci := 8) (q0 := 8) rfl rfl) rfl hl.1 rfl (Nat.le_of_ble_eq_true rfl) de_S_work_100 ⟨Nat.zero_le _, Nat.zero_le _⟩ hK hN hP hD hS hA (fun _ H locs hw_6 hP hD hS => ?_)
    obtain ⟨t_7, et_7⟩ : ∃ z, z = x_put (t.2.2.1 5) (t.2.2.1 2) t := ⟨_, rfl⟩
    have hP : va_P (dC, dI) CLS (wS ad T t_7) H := by rw [et_7]; exact hP
    have hD : va_D A (wS ad T t_7) := by rw [et_7]; exact hD
    obtain ⟨_, _, _, _, _, _⟩ : N6p t_7 t := by rw [et_7]; exact nsix (x_put_N _ _ _)
    refine lv_goto (tgt := 272) hx hb de_S_work_103 (by decide) ?_
    have hfin : t_7 = x_work a0 t := by
      first | (subst_vars; rfl) | (subst_vars; simp only [x_work, c_1_3, ↓reduceIte])
    rw [hfin] at hP hD
    subst hQ
    exact W.vret hx hb hr (fun t9 ht hW => ⟨⟨(), rfl, trivial, by rw [ht]; exact hP, va_K.moved hW.alike hK, hD⟩, hS.F ht⟩) hS.2.2 de_S_work_272
  by_cases c_1_4 : a0 = 4
  · skip
    refine lv_tableIn (tgt := 106) hx hb de_S_work_9 (by rw [c_1_4]; decide) (by rw [c_1_4]; decide) (by rw [c_1_4]; rfl) (by decide) ?_
    refine lv_aload_n hx hb de_S_work_106 rfl (lv_at hl 1 rfl) ?_
    refine va_get (D := (dC, dI)) (ci := 0) (v := .ref (ad 8)) (C := "StabilitySums") (T := TB_S) (N := 10) hx hb hts ui_S hown hK hP 0 rfl rfl 7 (by decide) (hts _ uw_263) (fun _ h9 => h9) rfl de_S_work_107 ?_
    refine lv_aload_n hx hb de_S_work_110 rfl (lv_at hl 1 rfl) ?_
    refine va_get (D := (dC, dI)) (ci := 0) (v := .ref (ad 6)) (C := "StabilitySums") (T := TB_S) (N := 10) hx hb hts ui_S hown hK hP 0 rfl rfl 5 (by decide) (hts _ uw_261) (fun _ h9 => h9) rfl de_S_work_111 ?_
    refine va_get (D := (dC, dI)) (ci := 6) (v := .long (t.2.2.1 5)) (C := "StabilitySums$Sums") (T := TB_U) (N := 5) hx hb hts ui_U hown hK hP 6 rfl rfl 3 (by decide) (hts _ uw_204) (fun _ h9 => h9) rfl de_S_work_114 ?_
    refine lv_aload_n hx hb de_S_work_117 rfl (lv_at hl 1 rfl) ?_
    refine va_get (D := (dC, dI)) (ci := 0) (v := .ref (ad 6)) (C := "StabilitySums") (T := TB_S) (N := 10) hx hb hts ui_S hown hK hP 0 rfl rfl 5 (by decide) (hts _ uw_261) (fun _ h9 => h9) rfl de_S_work_118 ?_
    refine va_get (D := (dC, dI)) (ci := 6) (v := .long (t.2.2.1 6)) (C := "StabilitySums$Sums") (T := TB_U) (N := 5) hx hb hts ui_U hown hK hP 6 rfl rfl 4 (by decide) (hts _ uw_206) (fun _ h9 => h9) rfl de_S_work_121 ?_
    refine lv_ladd hx hb de_S_work_124 ?_
    refine lv_topl (fun v_8 ev_8 => ?_)
    have ev_8 : v_8 = (t.2.2.1 5) + (t.2.2.1 6) := ev_8
    refine lv_lload_n hx hb de_S_work_125 rfl (lv_at hl 0 rfl) ?_
    refine cl_Vv (As := [.long v_8, .long (t.2.2.1 2)]) (rest := []) ⟨hx, hb, hml, hown, hts⟩ (mt_F_put l dC dI ad T t v_8 (t.2.2.1 2)) (cwV 2 hts (uw_V uw_376 uw_377 uw_378 uw_35 uw_379) rfl rfl rfl (by decide +kernel) ⟨Nat.le_of_ble_eq_true rfl, Nat.le_of_ble_eq_true rfl⟩) (va_recv hK hP (ci := 8) (q0 := 8) rfl rfl) rfl hl.1 rfl (Nat.le_of_ble_eq_true rfl) de_S_work_126 ⟨Nat.zero_le _, Nat.zero_le _⟩ hK hN hP hD hS hA (fun _ H locs hw_9 hP hD hS => ?_)
    obtain ⟨t_10, et_10⟩ : ∃ z, z = x_put v_8 (t.2.2.1 2) t := ⟨_, rfl⟩
    have hP : va_P (dC, dI) CLS (wS ad T t_10) H := by rw [et_10]; exact hP
    have hD : va_D A (wS ad T t_10) := by rw [et_10]; exact hD
    obtain ⟨_, _, _, _, _, _⟩ : N6p t_10 t := by rw [et_10]; exact nsix (x_put_N _ _ _)
    refine lv_goto (tgt := 272) hx hb de_S_work_129 (by decide) ?_
    have hfin : t_10 = x_work a0 t := by
      first | (subst_vars; rfl) | (subst_vars; simp only [x_work, c_1_4, ↓reduceIte])
    rw [hfin] at hP hD
    subst hQ
    exact W.vret hx hb hr (fun t9 ht hW => ⟨⟨(), rfl, trivial, by rw [ht]; exact hP, va_K.moved hW.alike hK, hD⟩, hS.F ht⟩) hS.2.2 de_S_work_272
  by_cases c_1_5 : a0 = 5
  · skip
    refine lv_tableIn (tgt := 132) hx hb de_S_work_9 (by rw [c_1_5]; decide) (by rw [c_1_5]; decide) (by rw [c_1_5]; rfl) (by decide) ?_
    refine lv_aload_n hx hb de_S_work_132 rfl (lv_at hl 1 rfl) ?_
    refine va_get (D := (dC, dI)) (ci := 0) (v := .ref (ad 3)) (C := "StabilitySums") (T := TB_S) (N := 10) hx hb hts ui_S hown hK hP 0 rfl rfl 2 (by decide) (hts _ uw_258) (fun _ h9 => h9) rfl de_S_work_133 ?_
    refine lv_aload_n hx hb de_S_work_136 rfl (lv_at hl 1 rfl) ?_
    refine va_get (D := (dC, dI)) (ci := 0) (v := .ref (ad 3)) (C := "StabilitySums") (T := TB_S) (N := 10) hx hb hts ui_S hown hK hP 0 rfl rfl 2 (by decide) (hts _ uw_258) (fun _ h9 => h9) rfl de_S_work_137 ?_
    refine va_get (D := (dC, dI)) (ci := 3) (v := .ref (ad 22)) (C := "StabilitySums$Table") (T := TB_B) (N := 4) hx hb hts ui_B hown hK hP 3 rfl rfl 1 (by decide) (hts _ uw_131) (fun _ h9 => h9) rfl de_S_work_140 ?_
    refine lv_lload_n hx hb de_S_work_143 rfl (lv_at hl 0 rfl) ?_
    refine lv_aload_n hx hb de_S_work_144 rfl (lv_at hl 1 rfl) ?_
    refine va_get (D := (dC, dI)) (ci := 0) (v := .ref (ad 8)) (C := "StabilitySums") (T := TB_S) (N := 10) hx hb hts ui_S hown hK hP 0 rfl rfl 7 (by decide) (hts _ uw_263) (fun _ h9 => h9) rfl de_S_work_145 ?_
    refine cl_Vv (As := [.ref (ad 22), .long (t.2.2.1 2), .ref (ad 8)]) (rest := []) ⟨hx, hb, hml, hown, hts⟩ (mt_B_read13 l dC dI ad T t (t.2.2.1 2) (show t.2.2.2 2 ≤ 12 from by omega)) (cwV 3 hts (uw_V uw_380 uw_381 uw_382 uw_30 uw_383) rfl rfl rfl (by decide +kernel) ⟨Nat.le_of_ble_eq_true rfl, Nat.le_of_ble_eq_true rfl⟩) (va_recv hK hP (ci := 3) (q0 := 3) rfl rfl) rfl hl.1 rfl (Nat.le_of_ble_eq_true rfl) de_S_work_148 ⟨Nat.zero_le _, Nat.zero_le _⟩ hK hN hP hD hS hA (fun _ H locs hw_11 hP hD hS => ?_)
    obtain ⟨t_12, et_12⟩ : ∃ z, z = x_read 13 (t.2.2.1 2) t := ⟨_, rfl⟩
    have hP : va_P (dC, dI) CLS (wS ad T t_12) H := by rw [et_12]; exact hP
    have hD : va_D A (wS ad T t_12) := by rw [et_12]; exact hD
    obtain ⟨_, _, _, _, _, _⟩ : N6p t_12 t := by rw [et_12]; exact nsix (x_read_N _ _ _)
    refine lv_aload_n hx hb de_S_work_151 rfl (lv_at hl 1 rfl) ?_
    refine va_get (D := (dC, dI)) (ci := 0) (v := .ref (ad 8)) (C := "StabilitySums") (T := TB_S) (N := 10) hx hb hts ui_S hown hK hP 0 rfl rfl 7 (by decide) (hts _ uw_263) (fun _ h9 => h9) rfl de_S_work_152 ?_
    refine lv_aload_n hx hb de_S_work_155 rfl (lv_at hl 1 rfl) ?_
    refine va_get (D := (dC, dI)) (ci := 0) (v := .ref (ad 8)) (C := "StabilitySums") (T := TB_S) (N := 10) hx hb hts ui_S hown hK hP 0 rfl rfl 7 (by decide) (hts _ uw_263) (fun _ h9 => h9) rfl de_S_work_156 ?_
    refine va_get (D := (dC, dI)) (ci := 8) (v := .long (t_12.2.2.1 7)) (C := "StabilitySums$Fraction") (T := TB_F) (N := 2) hx hb hts ui_F hown hK hP 8 rfl rfl 0 (by decide) (hts _ uw_247) (fun _ h9 => h9) rfl de_S_work_159 ?_
    refine lv_lload_n hx hb de_S_work_162 rfl (lv_at hl 0 rfl) ?_
    refine lv_lmul hx hb de_S_work_163 ?_
    refine lv_topl (fun v_13 ev_13 => ?_)
    have ev_13 : v_13 = (t_12.2.2.1 7) * (t.2.2.1 2) := ev_13
    refine lv_aload_n hx hb de_S_work_164 rfl (lv_at hl 1 rfl) ?_
    refine va_get (D := (dC, dI)) (ci := 0) (v := .ref (ad 6)) (C := "StabilitySums") (T := TB_S) (N := 10) hx hb hts ui_S hown hK hP 0 rfl rfl 5 (by decide) (hts _ uw_261) (fun _ h9 => h9) rfl de_S_work_165 ?_
    refine va_get (D := (dC, dI)) (ci := 6) (v := .long (t_12.2.2.1 5)) (C := "StabilitySums$Sums") (T := TB_U) (N := 5) hx hb hts ui_U hown hK hP 6 rfl rfl 3 (by decide) (hts _ uw_204) (fun _ h9 => h9) rfl de_S_work_168 ?_
    refine lv_aload_n hx hb de_S_work_171 rfl (lv_at hl 1 rfl) ?_
    refine va_get (D := (dC, dI)) (ci := 0) (v := .ref (ad 6)) (C := "StabilitySums") (T := TB_S) (N := 10) hx hb hts ui_S hown hK hP 0 rfl rfl 5 (by decide) (hts _ uw_261) (fun _ h9 => h9) rfl de_S_work_172 ?_
    refine va_get (D := (dC, dI)) (ci := 6) (v := .long (t_12.2.2.1 6)) (C := "StabilitySums$Sums") (T := TB_U) (N := 5) hx hb hts ui_U hown hK hP 6 rfl rfl 4 (by decide) (hts _ uw_206) (fun _ h9 => h9) rfl de_S_work_175 ?_
    refine lv_ladd hx hb de_S_work_178 ?_
    refine lv_topl (fun v_14 ev_14 => ?_)
    have ev_14 : v_14 = (t_12.2.2.1 5) + (t_12.2.2.1 6) := ev_14
    refine lv_aload_n hx hb de_S_work_179 rfl (lv_at hl 1 rfl) ?_
    refine va_get (D := (dC, dI)) (ci := 0) (v := .ref (ad 8)) (C := "StabilitySums") (T := TB_S) (N := 10) hx hb hts ui_S hown hK hP 0 rfl rfl 7 (by decide) (hts _ uw_263) (fun _ h9 => h9) rfl de_S_work_180 ?_
    refine va_get (D := (dC, dI)) (ci := 8) (v := .long (t_12.2.2.1 8)) (C := "StabilitySums$Fraction") (T := TB_F) (N := 2) hx hb hts ui_F hown hK hP 8 rfl rfl 1 (by decide) (hts _ uw_249) (fun _ h9 => h9) rfl de_S_work_183 ?_
    refine lv_lmul hx hb de_S_work_186 ?_
    refine lv_topl (fun v_15 ev_15 => ?_)
    have ev_15 : v_15 = v_14 * (t_12.2.2.1 8) := ev_15
    refine lv_lsub hx hb de_S_work_187 ?_
    refine lv_topl (fun v_16 ev_16 => ?_)
    have ev_16 : v_16 = v_13 - v_15 := ev_16
    refine lv_aload_n hx hb de_S_work_188 rfl (lv_at hl 1 rfl) ?_
    refine va_get (D := (dC, dI)) (ci := 0) (v := .ref (ad 8)) (C := "StabilitySums") (T := TB_S) (N := 10) hx hb hts ui_S hown hK hP 0 rfl rfl 7 (by decide) (hts _ uw_263) (fun _ h9 => h9) rfl de_S_work_189 ?_
    refine va_get (D := (dC, dI)) (ci := 8) (v := .long (t_12.2.2.1 8)) (C := "StabilitySums$Fraction") (T := TB_F) (N := 2) hx hb hts ui_F hown hK hP 8 rfl rfl 1 (by decide) (hts _ uw_249) (fun _ h9 => h9) rfl de_S_work_192 ?_
    refine lv_lload_n hx hb de_S_work_195 rfl (lv_at hl 0 rfl) ?_
    refine lv_lmul hx hb de_S_work_196 ?_
    refine lv_topl (fun v_17 ev_17 => ?_)
    have ev_17 : v_17 = (t_12.2.2.1 8) * (t.2.2.1 2) := ev_17
    refine cl_Vv (As := [.long v_16, .long v_17]) (rest := []) ⟨hx, hb, hml, hown, hts⟩ (mt_F_put l dC dI ad T t_12 v_16 v_17) (cwV 2 hts (uw_V uw_376 uw_377 uw_378 uw_35 uw_379) rfl rfl rfl (by decide +kernel) ⟨Nat.le_of_ble_eq_true rfl, Nat.le_of_ble_eq_true rfl⟩) (va_recv hK hP (ci := 8) (q0 := 8) rfl rfl) rfl hl.1 rfl (Nat.le_of_ble_eq_true rfl) de_S_work_197 ⟨Nat.zero_le _, Nat.zero_le _⟩ hK hN hP hD hS hA (fun _ H locs hw_18 hP hD hS => ?_)
    obtain ⟨t_19, et_19⟩ : ∃ z, z = x_put v_16 v_17 t_12 := ⟨_, rfl⟩
    have hP : va_P (dC, dI) CLS (wS ad T t_19) H := by rw [et_19]; exact hP
    have hD : va_D A (wS ad T t_19) := by rw [et_19]; exact hD
    obtain ⟨_, _, _, _, _, _⟩ : N6p t_19 t_12 := by rw [et_19]; exact nsix (x_put_N _ _ _)
    refine lv_goto (tgt := 272) hx hb de_S_work_200 (by decide) ?_
    have hfin : t_19 = x_work a0 t := by
      first | (subst_vars; rfl) | (subst_vars; simp only [x_work, c_1_5, ↓reduceIte])
    rw [hfin] at hP hD
    subst hQ
    exact W.vret hx hb hr (fun t9 ht hW => ⟨⟨(), rfl, trivial, by rw [ht]; exact hP, va_K.moved hW.alike hK, hD⟩, hS.F ht⟩) hS.2.2 de_S_work_272
  by_cases c_1_6 : a0 = 6
  · skip
    refine lv_tableIn (tgt := 203) hx hb de_S_work_9 (by rw [c_1_6]; decide) (by rw [c_1_6]; decide) (by rw [c_1_6]; rfl) (by decide) ?_
    refine lv_aload_n hx hb de_S_work_203 rfl (lv_at hl 1 rfl) ?_
    refine va_get (D := (dC, dI)) (ci := 0) (v := .ref (ad 3)) (C := "StabilitySums") (T := TB_S) (N := 10) hx hb hts ui_S hown hK hP 0 rfl rfl 2 (by decide) (hts _ uw_258) (fun _ h9 => h9) rfl de_S_work_204 ?_
    refine lv_aload_n hx hb de_S_work_207 rfl (lv_at hl 1 rfl) ?_
    refine va_get (D := (dC, dI)) (ci := 0) (v := .ref (ad 3)) (C := "StabilitySums") (T := TB_S) (N := 10) hx hb hts ui_S hown hK hP 0 rfl rfl 2 (by decide) (hts _ uw_258) (fun _ h9 => h9) rfl de_S_work_208 ?_
    refine va_get (D := (dC, dI)) (ci := 3) (v := .ref (ad 23)) (C := "StabilitySums$Table") (T := TB_B) (N := 4) hx hb hts ui_B hown hK hP 3 rfl rfl 2 (by decide) (hts _ uw_133) (fun _ h9 => h9) rfl de_S_work_211 ?_
    refine lv_lload_n hx hb de_S_work_214 rfl (lv_at hl 0 rfl) ?_
    refine lv_aload_n hx hb de_S_work_215 rfl (lv_at hl 1 rfl) ?_
    refine va_get (D := (dC, dI)) (ci := 0) (v := .ref (ad 8)) (C := "StabilitySums") (T := TB_S) (N := 10) hx hb hts ui_S hown hK hP 0 rfl rfl 7 (by decide) (hts _ uw_263) (fun _ h9 => h9) rfl de_S_work_216 ?_
    refine cl_Vv (As := [.ref (ad 23), .long (t.2.2.1 2), .ref (ad 8)]) (rest := []) ⟨hx, hb, hml, hown, hts⟩ (mt_B_read14 l dC dI ad T t (t.2.2.1 2) (show t.2.2.2 2 ≤ 12 from by omega)) (cwV 3 hts (uw_V uw_380 uw_381 uw_382 uw_30 uw_383) rfl rfl rfl (by decide +kernel) ⟨Nat.le_of_ble_eq_true rfl, Nat.le_of_ble_eq_true rfl⟩) (va_recv hK hP (ci := 3) (q0 := 3) rfl rfl) rfl hl.1 rfl (Nat.le_of_ble_eq_true rfl) de_S_work_219 ⟨Nat.zero_le _, Nat.zero_le _⟩ hK hN hP hD hS hA (fun _ H locs hw_20 hP hD hS => ?_)
    obtain ⟨t_21, et_21⟩ : ∃ z, z = x_read 14 (t.2.2.1 2) t := ⟨_, rfl⟩
    have hP : va_P (dC, dI) CLS (wS ad T t_21) H := by rw [et_21]; exact hP
    have hD : va_D A (wS ad T t_21) := by rw [et_21]; exact hD
    obtain ⟨_, _, _, _, _, _⟩ : N6p t_21 t := by rw [et_21]; exact nsix (x_read_N _ _ _)
    refine lv_goto (tgt := 272) hx hb de_S_work_222 (by decide) ?_
    have hfin : t_21 = x_work a0 t := by
      first | (subst_vars; rfl) | (subst_vars; simp only [x_work, c_1_6, ↓reduceIte])
    rw [hfin] at hP hD
    subst hQ
    exact W.vret hx hb hr (fun t9 ht hW => ⟨⟨(), rfl, trivial, by rw [ht]; exact hP, va_K.moved hW.alike hK, hD⟩, hS.F ht⟩) hS.2.2 de_S_work_272
  by_cases c_1_7 : a0 = 7
  · skip
    refine lv_tableIn (tgt := 225) hx hb de_S_work_9 (by rw [c_1_7]; decide) (by rw [c_1_7]; decide) (by rw [c_1_7]; rfl) (by decide) ?_
    refine lv_aload_n hx hb de_S_work_225 rfl (lv_at hl 1 rfl) ?_
    refine va_get (D := (dC, dI)) (ci := 0) (v := .ref (ad 8)) (C := "StabilitySums") (T := TB_S) (N := 10) hx hb hts ui_S hown hK hP 0 rfl rfl 7 (by decide) (hts _ uw_263) (fun _ h9 => h9) rfl de_S_work_226 ?_
    refine lv_ldc2 (v := 2) hx hb hown (hts _ uw_363) de_S_work_229 ?_
    refine lv_aload_n hx hb de_S_work_232 rfl (lv_at hl 1 rfl) ?_
    refine va_get (D := (dC, dI)) (ci := 0) (v := .ref (ad 6)) (C := "StabilitySums") (T := TB_S) (N := 10) hx hb hts ui_S hown hK hP 0 rfl rfl 5 (by decide) (hts _ uw_261) (fun _ h9 => h9) rfl de_S_work_233 ?_
    refine va_get (D := (dC, dI)) (ci := 6) (v := .long (t.2.2.1 3)) (C := "StabilitySums$Sums") (T := TB_U) (N := 5) hx hb hts ui_U hown hK hP 6 rfl rfl 1 (by decide) (hts _ uw_200) (fun _ h9 => h9) rfl de_S_work_236 ?_
    refine lv_lmul hx hb de_S_work_239 ?_
    refine lv_topl (fun v_22 ev_22 => ?_)
    have ev_22 : v_22 = 2 * (t.2.2.1 3) := ev_22
    refine lv_lload_n hx hb de_S_work_240 rfl (lv_at hl 0 rfl) ?_
    refine lv_aload_n hx hb de_S_work_241 rfl (lv_at hl 1 rfl) ?_
    refine va_get (D := (dC, dI)) (ci := 0) (v := .long (t.2.2.1 0)) (C := "StabilitySums") (T := TB_S) (N := 10) hx hb hts ui_S hown hK hP 0 rfl rfl 8 (by decide) (hts _ uw_264) (fun _ h9 => h9) rfl de_S_work_242 ?_
    refine lv_aload_n hx hb de_S_work_245 rfl (lv_at hl 1 rfl) ?_
    refine va_get (D := (dC, dI)) (ci := 0) (v := .long (t.2.2.1 1)) (C := "StabilitySums") (T := TB_S) (N := 10) hx hb hts ui_S hown hK hP 0 rfl rfl 9 (by decide) (hts _ uw_265) (fun _ h9 => h9) rfl de_S_work_246 ?_
    refine lv_ladd hx hb de_S_work_249 ?_
    refine lv_topl (fun v_23 ev_23 => ?_)
    have ev_23 : v_23 = (t.2.2.1 0) + (t.2.2.1 1) := ev_23
    refine lv_lmul hx hb de_S_work_250 ?_
    refine lv_topl (fun v_24 ev_24 => ?_)
    have ev_24 : v_24 = (t.2.2.1 2) * v_23 := ev_24
    refine lv_lsub hx hb de_S_work_251 ?_
    refine lv_topl (fun v_25 ev_25 => ?_)
    have ev_25 : v_25 = v_22 - v_24 := ev_25
    refine lv_ldc2 (v := 2) hx hb hown (hts _ uw_363) de_S_work_252 ?_
    refine lv_lload_n hx hb de_S_work_255 rfl (lv_at hl 0 rfl) ?_
    refine lv_lmul hx hb de_S_work_256 ?_
    refine lv_topl (fun v_26 ev_26 => ?_)
    have ev_26 : v_26 = 2 * (t.2.2.1 2) := ev_26
    refine cl_Vv (As := [.long v_25, .long v_26]) (rest := []) ⟨hx, hb, hml, hown, hts⟩ (mt_F_put l dC dI ad T t v_25 v_26) (cwV 2 hts (uw_V uw_376 uw_377 uw_378 uw_35 uw_379) rfl rfl rfl (by decide +kernel) ⟨Nat.le_of_ble_eq_true rfl, Nat.le_of_ble_eq_true rfl⟩) (va_recv hK hP (ci := 8) (q0 := 8) rfl rfl) rfl hl.1 rfl (Nat.le_of_ble_eq_true rfl) de_S_work_257 ⟨Nat.zero_le _, Nat.zero_le _⟩ hK hN hP hD hS hA (fun _ H locs hw_27 hP hD hS => ?_)
    obtain ⟨t_28, et_28⟩ : ∃ z, z = x_put v_25 v_26 t := ⟨_, rfl⟩
    have hP : va_P (dC, dI) CLS (wS ad T t_28) H := by rw [et_28]; exact hP
    have hD : va_D A (wS ad T t_28) := by rw [et_28]; exact hD
    obtain ⟨_, _, _, _, _, _⟩ : N6p t_28 t := by rw [et_28]; exact nsix (x_put_N _ _ _)
    refine lv_goto (tgt := 272) hx hb de_S_work_260 (by decide) ?_
    have hfin : t_28 = x_work a0 t := by
      first | (subst_vars; rfl) | (subst_vars; simp only [x_work, c_1_7, ↓reduceIte])
    rw [hfin] at hP hD
    subst hQ
    exact W.vret hx hb hr (fun t9 ht hW => ⟨⟨(), rfl, trivial, by rw [ht]; exact hP, va_K.moved hW.alike hK, hD⟩, hS.F ht⟩) hS.2.2 de_S_work_272
  have c_1_o : a0.toInt < 1 ∨ 7 < a0.toInt := sw_out1_7 c_1_1 c_1_2 c_1_3 c_1_4 c_1_5 c_1_6 c_1_7
  refine lv_tableOut (tgt := 263) hx hb de_S_work_9 c_1_o (by decide) ?_
  refine lv_aload_n hx hb de_S_work_263 rfl (lv_at hl 1 rfl) ?_
  refine va_get (D := (dC, dI)) (ci := 0) (v := .ref (ad 8)) (C := "StabilitySums") (T := TB_S) (N := 10) hx hb hts ui_S hown hK hP 0 rfl rfl 7 (by decide) (hts _ uw_263) (fun _ h9 => h9) rfl de_S_work_264 ?_
  refine lv_lload_n hx hb de_S_work_267 rfl (lv_at hl 0 rfl) ?_
  refine lv_lconst (v := 1) hx hb de_S_work_268 (by decide) ?_
  refine cl_Vv (As := [.long (t.2.2.1 2), .long 1]) (rest := []) ⟨hx, hb, hml, hown, hts⟩ (mt_F_put l dC dI ad T t (t.2.2.1 2) 1) (cwV 2 hts (uw_V uw_376 uw_377 uw_378 uw_35 uw_379) rfl rfl rfl (by decide +kernel) ⟨Nat.le_of_ble_eq_true rfl, Nat.le_of_ble_eq_true rfl⟩) (va_recv hK hP (ci := 8) (q0 := 8) rfl rfl) rfl hl.1 rfl (Nat.le_of_ble_eq_true rfl) de_S_work_269 ⟨Nat.zero_le _, Nat.zero_le _⟩ hK hN hP hD hS hA (fun _ H locs hw_29 hP hD hS => ?_)
  obtain ⟨t_30, et_30⟩ : ∃ z, z = x_put (t.2.2.1 2) 1 t := ⟨_, rfl⟩
  have hP : va_P (dC, dI) CLS (wS ad T t_30) H := by rw [et_30]; exact hP
  have hD : va_D A (wS ad T t_30) := by rw [et_30]; exact hD
  obtain ⟨_, _, _, _, _, _⟩ : N6p t_30 t := by rw [et_30]; exact nsix (x_put_N _ _ _)
  have hfin : t_30 = x_work a0 t := by
    first | (subst_vars; rfl) | (subst_vars; simp only [x_work, c_1_1, c_1_2, c_1_3, c_1_4, c_1_5, c_1_6, c_1_7, ↓reduceIte])
  rw [hfin] at hP hD
  subst hQ
  exact W.vret hx hb hr (fun t9 ht hW => ⟨⟨(), rfl, trivial, by rw [ht]; exact hP, va_K.moved hW.alike hK, hD⟩, hS.F ht⟩) hS.2.2 de_S_work_272
set_option maxHeartbeats 4000000 in
set_option maxRecDepth 100000 in
theorem mt_S_shearAt (l : Launch) (dC : Nat → ClassId) (dI : Nat → Nat → Nat) (ad : Nat → Nat) (T : Nat → ClassId) (t : St) (i : Nat) (hi0 : i ≤ 10) (sz : Nat) : Met l yn_S_shearAt (.code yn_S_shearAt cd_S_shearAt 8 (some .long) :: UW) ({ frames := 2, cells := 0, slots := 0, locals := 48 } : Room) (va_Pc [.ref (ad 0), .int (nI i)] (Pw (dC, dI) CLS (TY T) (wS ad T t) sz)) (va_Ql (fun (r : Int64) (_ : Unit) => r = x_shear t i) (Bw (dC, dI) CLS (TY T) (fun _ : Unit => (wS ad T t)) (va_A (wS ad T t) sz)) (va_A (wS ad T t) sz)) 0 0 (va_A (wS ad T t) sz) := by
  refine Met.ofW (cc := cd_S_shearAt) (maxL := 8) (ret := (some .long)) (by decide) rfl ?_
  intro p e s m args below meth c s₁ B hml hv
  obtain ⟨rfl, hsz, hP, hK, hD0, hN⟩ := hv
  have hx := B.exec
  have hb := B.bytes
  have hr := B.returns
  have hts : ∀ w ∈ UW, w.before _ s = true := fun w h => atoms_spec (ws := .code yn_S_shearAt cd_S_shearAt 8 (some .long) :: UW) B.pre w (List.mem_cons_of_mem _ h)
  have hown : s.vm.findClass "StabilitySums" = some m.cls := findClass_of_methodNamed B.named
  have hlocks := B.notSynchronized
  subst hsz
  have hD := hD0.self (sz := s.heap.size)
  generalize hAe : va_A (wS ad T t) s.heap.size = A at hD ⊢
  have hA : ∀ q : Nat, s.heap.size ≤ q → A q := fun q h => by rw [← hAe]; exact Or.inr h
  have hS : va_S A s.heap s.heap [] := va_S.rf
  have hl := lv_entry ([.ref (ad 0), .int (nI i)]) (n := 8) (Nat.le_of_ble_eq_true rfl)
  rw [lg_entry_eq]
  generalize (lg_sl ([.ref (ad 0), .int (nI i)]) ++ List.replicate (8 - (lg_sl ([.ref (ad 0), .int (nI i)])).length) Slot.unset).toArray = ls at hl ⊢
  have hl : lv_has ls 8 [(0, .ref (ad 0)), (1, .int (nI i))] := hl
  generalize hQ : MQ below _ _ s 0 0 A = Q
  refine lv_aload_n hx hb de_S_shearAt_0 rfl (lv_at hl 0 rfl) ?_
  refine va_get (D := (dC, dI)) (ci := 0) (v := .ref (ad 7)) (C := "StabilitySums") (T := TB_S) (N := 10) hx hb hts ui_S hown hK hP 0 rfl rfl 6 (by decide) (hts _ uw_262) (fun _ h9 => h9) rfl de_S_shearAt_1 ?_
  refine va_get (D := (dC, dI)) (ci := 7) (v := .ref (ad 30)) (C := "StabilitySums$Cuts") (T := TB_C) (N := 4) hx hb hts ui_C hown hK hP 7 rfl rfl 0 (by decide) (hts _ uw_225) (fun _ h9 => h9) rfl de_S_shearAt_4 ?_
  refine lv_iload_n hx hb de_S_shearAt_7 rfl (lv_at hl 1 rfl) ?_
  refine rw_lald (f := t.1 18) (j := i) hx hb hK hP 30 0 rfl rfl (by omega) (by decide) de_S_shearAt_8 ?_
  refine lv_lstore_n (lv' := [(2, .long (t.1 18 i)), (0, .ref (ad 0)), (1, .int (nI i))]) hx hb de_S_shearAt_9 rfl hl (by decide) rfl (fun ls hl => ?_)
  refine lv_aload_n hx hb de_S_shearAt_10 rfl (lv_at hl 1 rfl) ?_
  refine va_get (D := (dC, dI)) (ci := 0) (v := .ref (ad 7)) (C := "StabilitySums") (T := TB_S) (N := 10) hx hb hts ui_S hown hK hP 0 rfl rfl 6 (by decide) (hts _ uw_262) (fun _ h9 => h9) rfl de_S_shearAt_11 ?_
  refine va_get (D := (dC, dI)) (ci := 7) (v := .ref (ad 31)) (C := "StabilitySums$Cuts") (T := TB_C) (N := 4) hx hb hts ui_C hown hK hP 7 rfl rfl 1 (by decide) (hts _ uw_227) (fun _ h9 => h9) rfl de_S_shearAt_14 ?_
  refine lv_iload_n hx hb de_S_shearAt_17 rfl (lv_at hl 2 rfl) ?_
  refine rw_lald (f := t.1 19) (j := i) hx hb hK hP 31 0 rfl rfl (by omega) (by decide) de_S_shearAt_18 ?_
  refine lv_lstore (lv' := [(4, .long (t.1 19 i)), (2, .long (t.1 18 i)), (0, .ref (ad 0)), (1, .int (nI i))]) hx hb de_S_shearAt_19 hl (by decide) rfl (fun ls hl => ?_)
  refine lv_lload_n hx hb de_S_shearAt_21 rfl (lv_at hl 1 rfl) ?_
  refine lv_aload_n hx hb de_S_shearAt_22 rfl (lv_at hl 2 rfl) ?_
  refine va_get (D := (dC, dI)) (ci := 0) (v := .long (t.2.2.1 0)) (C := "StabilitySums") (T := TB_S) (N := 10) hx hb hts ui_S hown hK hP 0 rfl rfl 8 (by decide) (hts _ uw_264) (fun _ h9 => h9) rfl de_S_shearAt_23 ?_
  refine rw_gt (tgt := 33) hx hb de_S_shearAt_26 de_S_shearAt_27 (by decide) (fun c_1 => ?_) (fun c_1 => ?_)
  · skip
    refine lv_lload_n hx hb de_S_shearAt_33 rfl (lv_at hl 1 rfl) ?_
    refine lv_aload_n hx hb de_S_shearAt_34 rfl (lv_at hl 2 rfl) ?_
    refine va_get (D := (dC, dI)) (ci := 0) (v := .long (t.2.2.1 1)) (C := "StabilitySums") (T := TB_S) (N := 10) hx hb hts ui_S hown hK hP 0 rfl rfl 9 (by decide) (hts _ uw_265) (fun _ h9 => h9) rfl de_S_shearAt_35 ?_
    refine rw_lt (tgt := 53) hx hb de_S_shearAt_38 de_S_shearAt_39 (by decide) (fun c_2 => ?_) (fun c_2 => ?_)
    · skip
      refine lv_aload_n hx hb de_S_shearAt_53 rfl (lv_at hl 2 rfl) ?_
      refine va_get (D := (dC, dI)) (ci := 0) (v := .long (t.2.2.1 1)) (C := "StabilitySums") (T := TB_S) (N := 10) hx hb hts ui_S hown hK hP 0 rfl rfl 9 (by decide) (hts _ uw_265) (fun _ h9 => h9) rfl de_S_shearAt_54 ?_
      refine lv_aload_n hx hb de_S_shearAt_57 rfl (lv_at hl 2 rfl) ?_
      refine va_get (D := (dC, dI)) (ci := 0) (v := .long (t.2.2.1 0)) (C := "StabilitySums") (T := TB_S) (N := 10) hx hb hts ui_S hown hK hP 0 rfl rfl 8 (by decide) (hts _ uw_264) (fun _ h9 => h9) rfl de_S_shearAt_58 ?_
      refine lv_lsub hx hb de_S_shearAt_61 ?_
      refine lv_topl (fun v_3 ev_3 => ?_)
      have ev_3 : v_3 = (t.2.2.1 1) - (t.2.2.1 0) := ev_3
      refine lv_lstore (lv' := [(6, .long v_3), (4, .long (t.1 19 i)), (2, .long (t.1 18 i)), (0, .ref (ad 0)), (1, .int (nI i))]) hx hb de_S_shearAt_62 hl (by decide) rfl (fun ls hl => ?_)
      refine lv_lload hx hb de_S_shearAt_64 (lv_at hl 1 rfl) ?_
      refine lv_lload hx hb de_S_shearAt_66 (lv_at hl 0 rfl) ?_
      refine lv_lmul hx hb de_S_shearAt_68 ?_
      refine lv_topl (fun v_4 ev_4 => ?_)
      have ev_4 : v_4 = (t.1 19 i) * v_3 := ev_4
      refine lv_aload_n hx hb de_S_shearAt_69 rfl (lv_at hl 3 rfl) ?_
      refine va_get (D := (dC, dI)) (ci := 0) (v := .ref (ad 6)) (C := "StabilitySums") (T := TB_S) (N := 10) hx hb hts ui_S hown hK hP 0 rfl rfl 5 (by decide) (hts _ uw_261) (fun _ h9 => h9) rfl de_S_shearAt_70 ?_
      refine va_get (D := (dC, dI)) (ci := 6) (v := .long (t.2.2.1 2)) (C := "StabilitySums$Sums") (T := TB_U) (N := 5) hx hb hts ui_U hown hK hP 6 rfl rfl 0 (by decide) (hts _ uw_198) (fun _ h9 => h9) rfl de_S_shearAt_73 ?_
      refine lv_lload_n hx hb de_S_shearAt_76 rfl (lv_at hl 2 rfl) ?_
      refine lv_aload_n hx hb de_S_shearAt_77 rfl (lv_at hl 3 rfl) ?_
      refine va_get (D := (dC, dI)) (ci := 0) (v := .long (t.2.2.1 0)) (C := "StabilitySums") (T := TB_S) (N := 10) hx hb hts ui_S hown hK hP 0 rfl rfl 8 (by decide) (hts _ uw_264) (fun _ h9 => h9) rfl de_S_shearAt_78 ?_
      refine lv_lsub hx hb de_S_shearAt_81 ?_
      refine lv_topl (fun v_5 ev_5 => ?_)
      have ev_5 : v_5 = (t.1 18 i) - (t.2.2.1 0) := ev_5
      refine lv_lmul hx hb de_S_shearAt_82 ?_
      refine lv_topl (fun v_6 ev_6 => ?_)
      have ev_6 : v_6 = (t.2.2.1 2) * v_5 := ev_6
      refine lv_lsub hx hb de_S_shearAt_83 ?_
      refine lv_topl (fun v_7 ev_7 => ?_)
      have ev_7 : v_7 = v_4 - v_6 := ev_7
      refine lv_lload hx hb de_S_shearAt_84 (lv_at hl 0 rfl) ?_
      refine cl_Sl (As := [.long v_7, .long v_3]) (rest := []) ⟨hx, hb, hml, hown, hts⟩ (mt_S_divideDown l dC dI ad T t v_7 v_3) (va_cwS 2 hts (uw_S uw_353 uw_354 uw_27 uw_355) rfl rfl rfl (by decide +kernel) ⟨Nat.le_of_ble_eq_true rfl, Nat.le_of_ble_eq_true rfl⟩) rfl hl.1 rfl (Nat.le_of_ble_eq_true rfl) de_S_shearAt_86 ⟨Nat.zero_le _, Nat.zero_le _⟩ hK hN hP hD hS hA (fun r_8 _ H locs hw_8 hP hD hS => ?_)
      have hw_8 : r_8 = x_dd v_7 v_3 := hw_8
      subst hQ
      have hpost : r_8 = x_shear t i := by
        subst_vars; unfold x_shear; simp only [Int64.not_lt] at *; first | (rw [if_pos c_2]; done) | (rw [if_neg (Int64.not_le.mpr ‹_›), if_pos c_2]; done) | (rw [if_neg (Int64.not_le.mpr ‹_›), if_neg (Int64.not_le.mpr ‹_›)])
      exact W.lret (v := r_8) hx hb hr (fun t9 ht hW => ⟨⟨r_8, (), rfl, hpost, by rw [ht]; exact hP, va_K.moved hW.alike hK, hD⟩, hS.F ht⟩) hS.2.2 de_S_shearAt_89
    · skip
      refine lv_lload hx hb de_S_shearAt_42 (lv_at hl 0 rfl) ?_
      refine lv_aload_n hx hb de_S_shearAt_44 rfl (lv_at hl 2 rfl) ?_
      refine va_get (D := (dC, dI)) (ci := 0) (v := .ref (ad 6)) (C := "StabilitySums") (T := TB_S) (N := 10) hx hb hts ui_S hown hK hP 0 rfl rfl 5 (by decide) (hts _ uw_261) (fun _ h9 => h9) rfl de_S_shearAt_45 ?_
      refine va_get (D := (dC, dI)) (ci := 6) (v := .long (t.2.2.1 2)) (C := "StabilitySums$Sums") (T := TB_U) (N := 5) hx hb hts ui_U hown hK hP 6 rfl rfl 0 (by decide) (hts _ uw_198) (fun _ h9 => h9) rfl de_S_shearAt_48 ?_
      refine lv_lsub hx hb de_S_shearAt_51 ?_
      refine lv_topl (fun v_9 ev_9 => ?_)
      have ev_9 : v_9 = (t.1 19 i) - (t.2.2.1 2) := ev_9
      subst hQ
      have hpost : v_9 = x_shear t i := by
        subst_vars; unfold x_shear; simp only [Int64.not_lt] at *; first | (rw [if_pos c_2]; done) | (rw [if_neg (Int64.not_le.mpr ‹_›), if_pos c_2]; done) | (rw [if_neg (Int64.not_le.mpr ‹_›), if_neg (Int64.not_le.mpr ‹_›)])
      exact W.lret (v := v_9) hx hb hr (fun t9 ht hW => ⟨⟨v_9, (), rfl, hpost, by rw [ht]; exact hP, va_K.moved hW.alike hK, hD⟩, hS.F ht⟩) hS.2.2 de_S_shearAt_52
  · skip
    refine lv_lload hx hb de_S_shearAt_30 (lv_at hl 0 rfl) ?_
    subst hQ
    have hpost : (t.1 19 i) = x_shear t i := by
      subst_vars; unfold x_shear; simp only [Int64.not_lt] at *; first | (rw [if_pos c_1]; done) | (rw [if_neg (Int64.not_le.mpr ‹_›), if_pos c_1]; done) | (rw [if_neg (Int64.not_le.mpr ‹_›), if_neg (Int64.not_le.mpr ‹_›)])
    exact W.lret (v := (t.1 19 i)) hx hb hr (fun t9 ht hW => ⟨⟨(t.1 19 i), (), rfl, hpost, by rw [ht]; exact hP, va_K.moved hW.alike hK, hD⟩, hS.F ht⟩) hS.2.2 de_S_shearAt_32
set_option maxHeartbeats 4000000 in
set_option maxRecDepth 100000 in
theorem mt_S_bendingAt (l : Launch) (dC : Nat → ClassId) (dI : Nat → Nat → Nat) (ad : Nat → Nat) (T : Nat → ClassId) (t : St) (i : Nat) (hi0 : i ≤ 10) (sz : Nat) : Met l yn_S_bendingAt (.code yn_S_bendingAt cd_S_bendingAt 10 (some .long) :: UW) ({ frames := 2, cells := 0, slots := 0, locals := 48 } : Room) (va_Pc [.ref (ad 0), .int (nI i)] (Pw (dC, dI) CLS (TY T) (wS ad T t) sz)) (va_Ql (fun (r : Int64) (_ : Unit) => r = x_bend t i) (Bw (dC, dI) CLS (TY T) (fun _ : Unit => (wS ad T t)) (va_A (wS ad T t) sz)) (va_A (wS ad T t) sz)) 0 0 (va_A (wS ad T t) sz) := by
  refine Met.ofW (cc := cd_S_bendingAt) (maxL := 10) (ret := (some .long)) (by decide) rfl ?_
  intro p e s m args below meth c s₁ B hml hv
  obtain ⟨rfl, hsz, hP, hK, hD0, hN⟩ := hv
  have hx := B.exec
  have hb := B.bytes
  have hr := B.returns
  have hts : ∀ w ∈ UW, w.before _ s = true := fun w h => atoms_spec (ws := .code yn_S_bendingAt cd_S_bendingAt 10 (some .long) :: UW) B.pre w (List.mem_cons_of_mem _ h)
  have hown : s.vm.findClass "StabilitySums" = some m.cls := findClass_of_methodNamed B.named
  have hlocks := B.notSynchronized
  subst hsz
  have hD := hD0.self (sz := s.heap.size)
  generalize hAe : va_A (wS ad T t) s.heap.size = A at hD ⊢
  have hA : ∀ q : Nat, s.heap.size ≤ q → A q := fun q h => by rw [← hAe]; exact Or.inr h
  have hS : va_S A s.heap s.heap [] := va_S.rf
  have hl := lv_entry ([.ref (ad 0), .int (nI i)]) (n := 10) (Nat.le_of_ble_eq_true rfl)
  rw [lg_entry_eq]
  generalize (lg_sl ([.ref (ad 0), .int (nI i)]) ++ List.replicate (10 - (lg_sl ([.ref (ad 0), .int (nI i)])).length) Slot.unset).toArray = ls at hl ⊢
  have hl : lv_has ls 10 [(0, .ref (ad 0)), (1, .int (nI i))] := hl
  generalize hQ : MQ below _ _ s 0 0 A = Q
  refine lv_aload_n hx hb de_S_bendingAt_0 rfl (lv_at hl 0 rfl) ?_
  refine va_get (D := (dC, dI)) (ci := 0) (v := .ref (ad 7)) (C := "StabilitySums") (T := TB_S) (N := 10) hx hb hts ui_S hown hK hP 0 rfl rfl 6 (by decide) (hts _ uw_262) (fun _ h9 => h9) rfl de_S_bendingAt_1 ?_
  refine va_get (D := (dC, dI)) (ci := 7) (v := .ref (ad 30)) (C := "StabilitySums$Cuts") (T := TB_C) (N := 4) hx hb hts ui_C hown hK hP 7 rfl rfl 0 (by decide) (hts _ uw_225) (fun _ h9 => h9) rfl de_S_bendingAt_4 ?_
  refine lv_iload_n hx hb de_S_bendingAt_7 rfl (lv_at hl 1 rfl) ?_
  refine rw_lald (f := t.1 18) (j := i) hx hb hK hP 30 0 rfl rfl (by omega) (by decide) de_S_bendingAt_8 ?_
  refine lv_lstore_n (lv' := [(2, .long (t.1 18 i)), (0, .ref (ad 0)), (1, .int (nI i))]) hx hb de_S_bendingAt_9 rfl hl (by decide) rfl (fun ls hl => ?_)
  refine lv_aload_n hx hb de_S_bendingAt_10 rfl (lv_at hl 1 rfl) ?_
  refine va_get (D := (dC, dI)) (ci := 0) (v := .ref (ad 7)) (C := "StabilitySums") (T := TB_S) (N := 10) hx hb hts ui_S hown hK hP 0 rfl rfl 6 (by decide) (hts _ uw_262) (fun _ h9 => h9) rfl de_S_bendingAt_11 ?_
  refine va_get (D := (dC, dI)) (ci := 7) (v := .ref (ad 32)) (C := "StabilitySums$Cuts") (T := TB_C) (N := 4) hx hb hts ui_C hown hK hP 7 rfl rfl 2 (by decide) (hts _ uw_229) (fun _ h9 => h9) rfl de_S_bendingAt_14 ?_
  refine lv_iload_n hx hb de_S_bendingAt_17 rfl (lv_at hl 2 rfl) ?_
  refine rw_lald (f := t.1 20) (j := i) hx hb hK hP 32 0 rfl rfl (by omega) (by decide) de_S_bendingAt_18 ?_
  refine lv_lstore (lv' := [(4, .long (t.1 20 i)), (2, .long (t.1 18 i)), (0, .ref (ad 0)), (1, .int (nI i))]) hx hb de_S_bendingAt_19 hl (by decide) rfl (fun ls hl => ?_)
  refine lv_lload_n hx hb de_S_bendingAt_21 rfl (lv_at hl 1 rfl) ?_
  refine lv_aload_n hx hb de_S_bendingAt_22 rfl (lv_at hl 2 rfl) ?_
  refine va_get (D := (dC, dI)) (ci := 0) (v := .long (t.2.2.1 0)) (C := "StabilitySums") (T := TB_S) (N := 10) hx hb hts ui_S hown hK hP 0 rfl rfl 8 (by decide) (hts _ uw_264) (fun _ h9 => h9) rfl de_S_bendingAt_23 ?_
  refine rw_gt (tgt := 33) hx hb de_S_bendingAt_26 de_S_bendingAt_27 (by decide) (fun c_1 => ?_) (fun c_1 => ?_)
  · skip
    refine lv_lload_n hx hb de_S_bendingAt_33 rfl (lv_at hl 1 rfl) ?_
    refine lv_aload_n hx hb de_S_bendingAt_34 rfl (lv_at hl 2 rfl) ?_
    refine va_get (D := (dC, dI)) (ci := 0) (v := .long (t.2.2.1 1)) (C := "StabilitySums") (T := TB_S) (N := 10) hx hb hts ui_S hown hK hP 0 rfl rfl 9 (by decide) (hts _ uw_265) (fun _ h9 => h9) rfl de_S_bendingAt_35 ?_
    refine rw_lt (tgt := 79) hx hb de_S_bendingAt_38 de_S_bendingAt_39 (by decide) (fun c_2 => ?_) (fun c_2 => ?_)
    · skip
      refine lv_lload_n hx hb de_S_bendingAt_79 rfl (lv_at hl 1 rfl) ?_
      refine lv_aload_n hx hb de_S_bendingAt_80 rfl (lv_at hl 2 rfl) ?_
      refine va_get (D := (dC, dI)) (ci := 0) (v := .long (t.2.2.1 0)) (C := "StabilitySums") (T := TB_S) (N := 10) hx hb hts ui_S hown hK hP 0 rfl rfl 8 (by decide) (hts _ uw_264) (fun _ h9 => h9) rfl de_S_bendingAt_81 ?_
      refine lv_lsub hx hb de_S_bendingAt_84 ?_
      refine lv_topl (fun v_3 ev_3 => ?_)
      have ev_3 : v_3 = (t.1 18 i) - (t.2.2.1 0) := ev_3
      refine lv_lstore (lv' := [(6, .long v_3), (4, .long (t.1 20 i)), (2, .long (t.1 18 i)), (0, .ref (ad 0)), (1, .int (nI i))]) hx hb de_S_bendingAt_85 hl (by decide) rfl (fun ls hl => ?_)
      refine lv_ldc2 (v := 2) hx hb hown (hts _ uw_363) de_S_bendingAt_87 ?_
      refine lv_aload_n hx hb de_S_bendingAt_90 rfl (lv_at hl 3 rfl) ?_
      refine va_get (D := (dC, dI)) (ci := 0) (v := .long (t.2.2.1 1)) (C := "StabilitySums") (T := TB_S) (N := 10) hx hb hts ui_S hown hK hP 0 rfl rfl 9 (by decide) (hts _ uw_265) (fun _ h9 => h9) rfl de_S_bendingAt_91 ?_
      refine lv_aload_n hx hb de_S_bendingAt_94 rfl (lv_at hl 3 rfl) ?_
      refine va_get (D := (dC, dI)) (ci := 0) (v := .long (t.2.2.1 0)) (C := "StabilitySums") (T := TB_S) (N := 10) hx hb hts ui_S hown hK hP 0 rfl rfl 8 (by decide) (hts _ uw_264) (fun _ h9 => h9) rfl de_S_bendingAt_95 ?_
      refine lv_lsub hx hb de_S_bendingAt_98 ?_
      refine lv_topl (fun v_4 ev_4 => ?_)
      have ev_4 : v_4 = (t.2.2.1 1) - (t.2.2.1 0) := ev_4
      refine lv_lmul hx hb de_S_bendingAt_99 ?_
      refine lv_topl (fun v_5 ev_5 => ?_)
      have ev_5 : v_5 = 2 * v_4 := ev_5
      refine lv_lstore (lv' := [(8, .long v_5), (6, .long v_3), (4, .long (t.1 20 i)), (2, .long (t.1 18 i)), (0, .ref (ad 0)), (1, .int (nI i))]) hx hb de_S_bendingAt_100 hl (by decide) rfl (fun ls hl => ?_)
      refine lv_lload hx hb de_S_bendingAt_102 (lv_at hl 2 rfl) ?_
      refine lv_lload hx hb de_S_bendingAt_104 (lv_at hl 0 rfl) ?_
      refine lv_lmul hx hb de_S_bendingAt_106 ?_
      refine lv_topl (fun v_6 ev_6 => ?_)
      have ev_6 : v_6 = (t.1 20 i) * v_5 := ev_6
      refine lv_aload_n hx hb de_S_bendingAt_107 rfl (lv_at hl 4 rfl) ?_
      refine va_get (D := (dC, dI)) (ci := 0) (v := .ref (ad 6)) (C := "StabilitySums") (T := TB_S) (N := 10) hx hb hts ui_S hown hK hP 0 rfl rfl 5 (by decide) (hts _ uw_261) (fun _ h9 => h9) rfl de_S_bendingAt_108 ?_
      refine va_get (D := (dC, dI)) (ci := 6) (v := .long (t.2.2.1 2)) (C := "StabilitySums$Sums") (T := TB_U) (N := 5) hx hb hts ui_U hown hK hP 6 rfl rfl 0 (by decide) (hts _ uw_198) (fun _ h9 => h9) rfl de_S_bendingAt_111 ?_
      refine lv_lload hx hb de_S_bendingAt_114 (lv_at hl 1 rfl) ?_
      refine lv_lmul hx hb de_S_bendingAt_116 ?_
      refine lv_topl (fun v_7 ev_7 => ?_)
      have ev_7 : v_7 = (t.2.2.1 2) * v_3 := ev_7
      refine lv_lload hx hb de_S_bendingAt_117 (lv_at hl 1 rfl) ?_
      refine lv_lmul hx hb de_S_bendingAt_119 ?_
      refine lv_topl (fun v_8 ev_8 => ?_)
      have ev_8 : v_8 = v_7 * v_3 := ev_8
      refine lv_lsub hx hb de_S_bendingAt_120 ?_
      refine lv_topl (fun v_9 ev_9 => ?_)
      have ev_9 : v_9 = v_6 - v_8 := ev_9
      refine lv_lload hx hb de_S_bendingAt_121 (lv_at hl 0 rfl) ?_
      refine cl_Sl (As := [.long v_9, .long v_5]) (rest := []) ⟨hx, hb, hml, hown, hts⟩ (mt_S_divideDown l dC dI ad T t v_9 v_5) (va_cwS 2 hts (uw_S uw_353 uw_354 uw_27 uw_355) rfl rfl rfl (by decide +kernel) ⟨Nat.le_of_ble_eq_true rfl, Nat.le_of_ble_eq_true rfl⟩) rfl hl.1 rfl (Nat.le_of_ble_eq_true rfl) de_S_bendingAt_123 ⟨Nat.zero_le _, Nat.zero_le _⟩ hK hN hP hD hS hA (fun r_10 _ H locs hw_10 hP hD hS => ?_)
      have hw_10 : r_10 = x_dd v_9 v_5 := hw_10
      subst hQ
      have hpost : r_10 = x_bend t i := by
        subst_vars; unfold x_bend; simp only [Int64.not_lt] at *; first | (rw [if_pos c_2]; done) | (rw [if_neg (Int64.not_le.mpr ‹_›), if_pos c_2]; done) | (rw [if_neg (Int64.not_le.mpr ‹_›), if_neg (Int64.not_le.mpr ‹_›)])
      exact W.lret (v := r_10) hx hb hr (fun t9 ht hW => ⟨⟨r_10, (), rfl, hpost, by rw [ht]; exact hP, va_K.moved hW.alike hK, hD⟩, hS.F ht⟩) hS.2.2 de_S_bendingAt_126
    · skip
      refine lv_ldc2 (v := 2) hx hb hown (hts _ uw_363) de_S_bendingAt_42 ?_
      refine lv_lload hx hb de_S_bendingAt_45 (lv_at hl 0 rfl) ?_
      refine lv_lmul hx hb de_S_bendingAt_47 ?_
      refine lv_topl (fun v_11 ev_11 => ?_)
      have ev_11 : v_11 = 2 * (t.1 20 i) := ev_11
      refine lv_aload_n hx hb de_S_bendingAt_48 rfl (lv_at hl 2 rfl) ?_
      refine va_get (D := (dC, dI)) (ci := 0) (v := .ref (ad 6)) (C := "StabilitySums") (T := TB_S) (N := 10) hx hb hts ui_S hown hK hP 0 rfl rfl 5 (by decide) (hts _ uw_261) (fun _ h9 => h9) rfl de_S_bendingAt_49 ?_
      refine va_get (D := (dC, dI)) (ci := 6) (v := .long (t.2.2.1 2)) (C := "StabilitySums$Sums") (T := TB_U) (N := 5) hx hb hts ui_U hown hK hP 6 rfl rfl 0 (by decide) (hts _ uw_198) (fun _ h9 => h9) rfl de_S_bendingAt_52 ?_
      refine lv_ldc2 (v := 2) hx hb hown (hts _ uw_363) de_S_bendingAt_55 ?_
      refine lv_lload_n hx hb de_S_bendingAt_58 rfl (lv_at hl 1 rfl) ?_
      refine lv_lmul hx hb de_S_bendingAt_59 ?_
      refine lv_topl (fun v_12 ev_12 => ?_)
      have ev_12 : v_12 = 2 * (t.1 18 i) := ev_12
      refine lv_aload_n hx hb de_S_bendingAt_60 rfl (lv_at hl 2 rfl) ?_
      refine va_get (D := (dC, dI)) (ci := 0) (v := .long (t.2.2.1 0)) (C := "StabilitySums") (T := TB_S) (N := 10) hx hb hts ui_S hown hK hP 0 rfl rfl 8 (by decide) (hts _ uw_264) (fun _ h9 => h9) rfl de_S_bendingAt_61 ?_
      refine lv_lsub hx hb de_S_bendingAt_64 ?_
      refine lv_topl (fun v_13 ev_13 => ?_)
      have ev_13 : v_13 = v_12 - (t.2.2.1 0) := ev_13
      refine lv_aload_n hx hb de_S_bendingAt_65 rfl (lv_at hl 2 rfl) ?_
      refine va_get (D := (dC, dI)) (ci := 0) (v := .long (t.2.2.1 1)) (C := "StabilitySums") (T := TB_S) (N := 10) hx hb hts ui_S hown hK hP 0 rfl rfl 9 (by decide) (hts _ uw_265) (fun _ h9 => h9) rfl de_S_bendingAt_66 ?_
      refine lv_lsub hx hb de_S_bendingAt_69 ?_
      refine lv_topl (fun v_14 ev_14 => ?_)
      have ev_14 : v_14 = v_13 - (t.2.2.1 1) := ev_14
      refine lv_lmul hx hb de_S_bendingAt_70 ?_
      refine lv_topl (fun v_15 ev_15 => ?_)
      have ev_15 : v_15 = (t.2.2.1 2) * v_14 := ev_15
      refine lv_lsub hx hb de_S_bendingAt_71 ?_
      refine lv_topl (fun v_16 ev_16 => ?_)
      have ev_16 : v_16 = v_11 - v_15 := ev_16
      refine lv_ldc2 (v := 2) hx hb hown (hts _ uw_363) de_S_bendingAt_72 ?_
      refine cl_Sl (As := [.long v_16, .long 2]) (rest := []) ⟨hx, hb, hml, hown, hts⟩ (mt_S_divideDown l dC dI ad T t v_16 2) (va_cwS 2 hts (uw_S uw_353 uw_354 uw_27 uw_355) rfl rfl rfl (by decide +kernel) ⟨Nat.le_of_ble_eq_true rfl, Nat.le_of_ble_eq_true rfl⟩) rfl hl.1 rfl (Nat.le_of_ble_eq_true rfl) de_S_bendingAt_75 ⟨Nat.zero_le _, Nat.zero_le _⟩ hK hN hP hD hS hA (fun r_17 _ H locs hw_17 hP hD hS => ?_)
      have hw_17 : r_17 = x_dd v_16 2 := hw_17
      subst hQ
      have hpost : r_17 = x_bend t i := by
        subst_vars; unfold x_bend; simp only [Int64.not_lt] at *; first | (rw [if_pos c_2]; done) | (rw [if_neg (Int64.not_le.mpr ‹_›), if_pos c_2]; done) | (rw [if_neg (Int64.not_le.mpr ‹_›), if_neg (Int64.not_le.mpr ‹_›)])
      exact W.lret (v := r_17) hx hb hr (fun t9 ht hW => ⟨⟨r_17, (), rfl, hpost, by rw [ht]; exact hP, va_K.moved hW.alike hK, hD⟩, hS.F ht⟩) hS.2.2 de_S_bendingAt_78
  · skip
    refine lv_lload hx hb de_S_bendingAt_30 (lv_at hl 0 rfl) ?_
    subst hQ
    have hpost : (t.1 20 i) = x_bend t i := by
      subst_vars; unfold x_bend; simp only [Int64.not_lt] at *; first | (rw [if_pos c_1]; done) | (rw [if_neg (Int64.not_le.mpr ‹_›), if_pos c_1]; done) | (rw [if_neg (Int64.not_le.mpr ‹_›), if_neg (Int64.not_le.mpr ‹_›)])
    exact W.lret (v := (t.1 20 i)) hx hb hr (fun t9 ht hW => ⟨⟨(t.1 20 i), (), rfl, hpost, by rw [ht]; exact hP, va_K.moved hW.alike hK, hD⟩, hS.F ht⟩) hS.2.2 de_S_bendingAt_32
set_option maxHeartbeats 4000000 in
set_option maxRecDepth 100000 in
theorem mt_S_breaks (l : Launch) (dC : Nat → ClassId) (dI : Nat → Nat → Nat) (ad : Nat → Nat) (T : Nat → ClassId) (t : St) (i : Nat) (hI : Iv t) (hi0 : i ≤ 10) (sz : Nat) : Met l yn_S_breaks (.code yn_S_breaks cd_S_breaks 5 (some .boolean) :: UW) ({ frames := 3, cells := 0, slots := 0, locals := 78 } : Room) (va_Pc [.ref (ad 0), .int (nI i)] (Pw (dC, dI) CLS (TY T) (wS ad T t) sz)) (va_Qi (fun (r : Int32) (_ : Unit) => bz r (x_bp i t)) (Bw (dC, dI) CLS (TY T) (fun _ : Unit => (wS ad T (x_bt i t))) (va_A (wS ad T t) sz)) (va_A (wS ad T t) sz)) 0 0 (va_A (wS ad T t) sz) := by
  refine Met.ofW (cc := cd_S_breaks) (maxL := 5) (ret := (some .boolean)) (by decide) rfl ?_
  intro p e s m args below meth c s₁ B hml hv
  obtain ⟨rfl, hsz, hP, hK, hD0, hN⟩ := hv
  have hx := B.exec
  have hb := B.bytes
  have hr := B.returns
  have hts : ∀ w ∈ UW, w.before _ s = true := fun w h => atoms_spec (ws := .code yn_S_breaks cd_S_breaks 5 (some .boolean) :: UW) B.pre w (List.mem_cons_of_mem _ h)
  have hown : s.vm.findClass "StabilitySums" = some m.cls := findClass_of_methodNamed B.named
  have hlocks := B.notSynchronized
  subst hsz
  have hD := hD0.self (sz := s.heap.size)
  generalize hAe : va_A (wS ad T t) s.heap.size = A at hD ⊢
  have hA : ∀ q : Nat, s.heap.size ≤ q → A q := fun q h => by rw [← hAe]; exact Or.inr h
  have hS : va_S A s.heap s.heap [] := va_S.rf
  have hl := lv_entry ([.ref (ad 0), .int (nI i)]) (n := 5) (Nat.le_of_ble_eq_true rfl)
  rw [lg_entry_eq]
  generalize (lg_sl ([.ref (ad 0), .int (nI i)]) ++ List.replicate (5 - (lg_sl ([.ref (ad 0), .int (nI i)])).length) Slot.unset).toArray = ls at hl ⊢
  have hl : lv_has ls 5 [(0, .ref (ad 0)), (1, .int (nI i))] := hl
  generalize hQ : MQ below _ _ s 0 0 A = Q
  obtain ⟨hI0, hI1, hI2, hI3, hI4, hI5⟩ := hI
  refine lv_aload_n hx hb de_S_breaks_0 rfl (lv_at hl 0 rfl) ?_
  refine va_get (D := (dC, dI)) (ci := 0) (v := .ref (ad 4)) (C := "StabilitySums") (T := TB_S) (N := 10) hx hb hts ui_S hown hK hP 0 rfl rfl 3 (by decide) (hts _ uw_259) (fun _ h9 => h9) rfl de_S_breaks_1 ?_
  refine va_get (D := (dC, dI)) (ci := 4) (v := .ref (ad 24)) (C := "StabilitySums$Limits") (T := TB_L) (N := 4) hx hb hts ui_L hown hK hP 4 rfl rfl 0 (by decide) (hts _ uw_152) (fun _ h9 => h9) rfl de_S_breaks_4 ?_
  refine lv_iload_n hx hb de_S_breaks_7 rfl (lv_at hl 1 rfl) ?_
  refine rw_iald (f := t.2.1 0) (j := i) hx hb hK hP 24 1 rfl rfl (by omega) (by decide) de_S_breaks_8 ?_
  refine lv_istore_n (lv' := [(2, .int (t.2.1 0 i)), (0, .ref (ad 0)), (1, .int (nI i))]) hx hb de_S_breaks_9 rfl hl (by decide) rfl (fun ls hl => ?_)
  refine lv_iload_n hx hb de_S_breaks_10 rfl (lv_at hl 0 rfl) ?_
  refine lv_bipush (v := 8) hx hb de_S_breaks_11 (by decide) ?_
  refine lv_icmp_eq (tgt := 22) hx hb de_S_breaks_13 (by decide) (fun c_1 => ?_) (fun c_1 => ?_)
  · skip
    refine lv_iload_n hx hb de_S_breaks_22 rfl (lv_at hl 0 rfl) ?_
    refine lv_bipush (v := 8) hx hb de_S_breaks_23 (by decide) ?_
    refine lv_icmp_ne (tgt := 36) hx hb de_S_breaks_25 (by decide) (fun c_2 => ?_) (fun c_2 => ?_)
    · skip
      refine lv_aload_n hx hb de_S_breaks_36 rfl (lv_at hl 1 rfl) ?_
      refine lv_iload_n hx hb de_S_breaks_37 rfl (lv_at hl 2 rfl) ?_
      refine cl_Vl (As := [.int (nI i)]) (rest := []) ⟨hx, hb, hml, hown, hts⟩ (mt_S_bendingAt l dC dI ad T t i (show i ≤ 10 from by omega)) (cwV 1 hts (uw_V uw_359 uw_361 uw_6 uw_27 uw_362) rfl rfl rfl (by decide +kernel) ⟨Nat.le_of_ble_eq_true rfl, Nat.le_of_ble_eq_true rfl⟩) (va_recv hK hP (ci := 0) (q0 := 0) rfl rfl) rfl hl.1 rfl (Nat.le_of_ble_eq_true rfl) de_S_breaks_38 ⟨Nat.zero_le _, Nat.zero_le _⟩ hK hN hP hD hS hA (fun r_3 _ H locs hw_3 hP hD hS => ?_)
      have hw_3 : r_3 = x_bend t i := hw_3
      refine lv_lstore_n (lv' := [(3, .long r_3), (2, .int (t.2.1 0 i)), (0, .ref (ad 0)), (1, .int (nI i))]) hx hb de_S_breaks_41 rfl hl (by decide) rfl (fun ls hl => ?_)
      refine lv_aload_n hx hb de_S_breaks_42 rfl (lv_at hl 2 rfl) ?_
      refine va_get (D := (dC, dI)) (ci := 0) (v := .ref (ad 4)) (C := "StabilitySums") (T := TB_S) (N := 10) hx hb hts ui_S hown hK hP 0 rfl rfl 3 (by decide) (hts _ uw_259) (fun _ h9 => h9) rfl de_S_breaks_43 ?_
      refine lv_iload_n hx hb de_S_breaks_46 rfl (lv_at hl 3 rfl) ?_
      refine lv_lload_n hx hb de_S_breaks_47 rfl (lv_at hl 0 rfl) ?_
      refine lv_lload_n hx hb de_S_breaks_48 rfl (lv_at hl 0 rfl) ?_
      refine cl_Vi (As := [.int (nI i), .long r_3, .long r_3]) (rest := []) ⟨hx, hb, hml, hown, hts⟩ (mt_L_allows l dC dI ad T t i r_3 r_3 (show i ≤ 10 from by omega)) (cwV 3 hts (uw_V uw_364 uw_365 uw_366 uw_31 uw_367) rfl rfl rfl (by decide +kernel) ⟨Nat.le_of_ble_eq_true rfl, Nat.le_of_ble_eq_true rfl⟩) (va_recv hK hP (ci := 4) (q0 := 4) rfl rfl) rfl hl.1 rfl (Nat.le_of_ble_eq_true rfl) de_S_breaks_49 ⟨Nat.zero_le _, Nat.zero_le _⟩ hK hN hP hD hS hA (fun r_4 _ H locs hw_4 hP hD hS => ?_)
      have hw_4 : bz r_4 (x_alw t i r_3 r_3) := hw_4
      refine lv_if_ne (tgt := 59) hx hb de_S_breaks_52 (by decide) (fun c_5 => ?_) (fun c_5 => ?_)
      · skip
        have c_5 := bz_t hw_4 c_5
        refine lv_iconst (v := 0) hx hb de_S_breaks_59 (by decide) ?_
        have hfin : t = x_bt i t := by
          first | contradiction | (rw [x_bt, if_pos c_1]; done) | (rw [x_bt, if_neg c_1, if_pos c_2]; done) | (rw [x_bt, if_neg c_1, if_neg c_2, if_pos c_5]; done) | (rw [x_bt, if_neg c_1, if_neg c_2, if_neg c_5]; assumption)
        rw [hfin] at hP hD
        subst hQ
        have hpost : bz 0 (x_bp i t) := by
          first | contradiction | (subst_vars; first | exact Or.inl ⟨rfl, by rw [x_bp, if_pos c_1]; exact c_5⟩ | exact Or.inr ⟨rfl, by rw [x_bp, if_pos c_1]; exact not_not_intro c_5⟩ | exact Or.inl ⟨rfl, by rw [x_bp, if_neg c_1, if_pos c_2]; exact c_5⟩ | exact Or.inr ⟨rfl, by rw [x_bp, if_neg c_1, if_pos c_2]; exact not_not_intro c_5⟩ | exact Or.inl ⟨rfl, by rw [x_bp, if_neg c_1, if_neg c_2, if_pos c_5]; trivial⟩ | exact Or.inl ⟨rfl, by rw [x_bp, if_neg c_1, if_neg c_2, if_neg c_5]; exact c_5⟩ | exact Or.inr ⟨rfl, by rw [x_bp, if_neg c_1, if_neg c_2, if_neg c_5]; exact not_not_intro c_5⟩)
        exact W.zret (v := 0) hx hb hr (bz_nar hpost) (fun t9 ht hW => ⟨⟨0, (), rfl, hpost, by rw [ht]; exact hP, va_K.moved hW.alike hK, hD⟩, hS.F ht⟩) hS.2.2 de_S_breaks_60
      · skip
        have c_5 := bz_f hw_4 c_5
        refine lv_iconst (v := 1) hx hb de_S_breaks_55 (by decide) ?_
        refine lv_goto (tgt := 60) hx hb de_S_breaks_56 (by decide) ?_
        have hfin : t = x_bt i t := by
          first | contradiction | (rw [x_bt, if_pos c_1]; done) | (rw [x_bt, if_neg c_1, if_pos c_2]; done) | (rw [x_bt, if_neg c_1, if_neg c_2, if_pos c_5]; done) | (rw [x_bt, if_neg c_1, if_neg c_2, if_neg c_5]; assumption)
        rw [hfin] at hP hD
        subst hQ
        have hpost : bz 1 (x_bp i t) := by
          first | contradiction | (subst_vars; first | exact Or.inl ⟨rfl, by rw [x_bp, if_pos c_1]; exact c_5⟩ | exact Or.inr ⟨rfl, by rw [x_bp, if_pos c_1]; exact not_not_intro c_5⟩ | exact Or.inl ⟨rfl, by rw [x_bp, if_neg c_1, if_pos c_2]; exact c_5⟩ | exact Or.inr ⟨rfl, by rw [x_bp, if_neg c_1, if_pos c_2]; exact not_not_intro c_5⟩ | exact Or.inl ⟨rfl, by rw [x_bp, if_neg c_1, if_neg c_2, if_pos c_5]; trivial⟩ | exact Or.inl ⟨rfl, by rw [x_bp, if_neg c_1, if_neg c_2, if_neg c_5]; exact c_5⟩ | exact Or.inr ⟨rfl, by rw [x_bp, if_neg c_1, if_neg c_2, if_neg c_5]; exact not_not_intro c_5⟩)
        exact W.zret (v := 1) hx hb hr (bz_nar hpost) (fun t9 ht hW => ⟨⟨1, (), rfl, hpost, by rw [ht]; exact hP, va_K.moved hW.alike hK, hD⟩, hS.F ht⟩) hS.2.2 de_S_breaks_60
    · skip
      refine lv_aload_n hx hb de_S_breaks_28 rfl (lv_at hl 1 rfl) ?_
      refine lv_iload_n hx hb de_S_breaks_29 rfl (lv_at hl 2 rfl) ?_
      refine cl_Vl (As := [.int (nI i)]) (rest := []) ⟨hx, hb, hml, hown, hts⟩ (mt_S_shearAt l dC dI ad T t i (show i ≤ 10 from by omega)) (cwV 1 hts (uw_V uw_349 uw_351 uw_5 uw_27 uw_352) rfl rfl rfl (by decide +kernel) ⟨Nat.le_of_ble_eq_true rfl, Nat.le_of_ble_eq_true rfl⟩) (va_recv hK hP (ci := 0) (q0 := 0) rfl rfl) rfl hl.1 rfl (Nat.le_of_ble_eq_true rfl) de_S_breaks_30 ⟨Nat.zero_le _, Nat.zero_le _⟩ hK hN hP hD hS hA (fun r_6 _ H locs hw_6 hP hD hS => ?_)
      have hw_6 : r_6 = x_shear t i := hw_6
      refine lv_goto (tgt := 41) hx hb de_S_breaks_33 (by decide) ?_
      refine lv_lstore_n (lv' := [(3, .long r_6), (2, .int (t.2.1 0 i)), (0, .ref (ad 0)), (1, .int (nI i))]) hx hb de_S_breaks_41 rfl hl (by decide) rfl (fun ls hl => ?_)
      refine lv_aload_n hx hb de_S_breaks_42 rfl (lv_at hl 2 rfl) ?_
      refine va_get (D := (dC, dI)) (ci := 0) (v := .ref (ad 4)) (C := "StabilitySums") (T := TB_S) (N := 10) hx hb hts ui_S hown hK hP 0 rfl rfl 3 (by decide) (hts _ uw_259) (fun _ h9 => h9) rfl de_S_breaks_43 ?_
      refine lv_iload_n hx hb de_S_breaks_46 rfl (lv_at hl 3 rfl) ?_
      refine lv_lload_n hx hb de_S_breaks_47 rfl (lv_at hl 0 rfl) ?_
      refine lv_lload_n hx hb de_S_breaks_48 rfl (lv_at hl 0 rfl) ?_
      refine cl_Vi (As := [.int (nI i), .long r_6, .long r_6]) (rest := []) ⟨hx, hb, hml, hown, hts⟩ (mt_L_allows l dC dI ad T t i r_6 r_6 (show i ≤ 10 from by omega)) (cwV 3 hts (uw_V uw_364 uw_365 uw_366 uw_31 uw_367) rfl rfl rfl (by decide +kernel) ⟨Nat.le_of_ble_eq_true rfl, Nat.le_of_ble_eq_true rfl⟩) (va_recv hK hP (ci := 4) (q0 := 4) rfl rfl) rfl hl.1 rfl (Nat.le_of_ble_eq_true rfl) de_S_breaks_49 ⟨Nat.zero_le _, Nat.zero_le _⟩ hK hN hP hD hS hA (fun r_7 _ H locs hw_7 hP hD hS => ?_)
      have hw_7 : bz r_7 (x_alw t i r_6 r_6) := hw_7
      refine lv_if_ne (tgt := 59) hx hb de_S_breaks_52 (by decide) (fun c_8 => ?_) (fun c_8 => ?_)
      · skip
        have c_8 := bz_t hw_7 c_8
        refine lv_iconst (v := 0) hx hb de_S_breaks_59 (by decide) ?_
        have hfin : t = x_bt i t := by
          first | contradiction | (rw [x_bt, if_pos c_1]; done) | (rw [x_bt, if_neg c_1, if_pos c_2]; done) | (rw [x_bt, if_neg c_1, if_neg c_2, if_pos c_8]; done) | (rw [x_bt, if_neg c_1, if_neg c_2, if_neg c_8]; assumption)
        rw [hfin] at hP hD
        subst hQ
        have hpost : bz 0 (x_bp i t) := by
          first | contradiction | (subst_vars; first | exact Or.inl ⟨rfl, by rw [x_bp, if_pos c_1]; exact c_8⟩ | exact Or.inr ⟨rfl, by rw [x_bp, if_pos c_1]; exact not_not_intro c_8⟩ | exact Or.inl ⟨rfl, by rw [x_bp, if_neg c_1, if_pos c_2]; exact c_8⟩ | exact Or.inr ⟨rfl, by rw [x_bp, if_neg c_1, if_pos c_2]; exact not_not_intro c_8⟩ | exact Or.inl ⟨rfl, by rw [x_bp, if_neg c_1, if_neg c_2, if_pos c_8]; trivial⟩ | exact Or.inl ⟨rfl, by rw [x_bp, if_neg c_1, if_neg c_2, if_neg c_8]; exact c_8⟩ | exact Or.inr ⟨rfl, by rw [x_bp, if_neg c_1, if_neg c_2, if_neg c_8]; exact not_not_intro c_8⟩)
        exact W.zret (v := 0) hx hb hr (bz_nar hpost) (fun t9 ht hW => ⟨⟨0, (), rfl, hpost, by rw [ht]; exact hP, va_K.moved hW.alike hK, hD⟩, hS.F ht⟩) hS.2.2 de_S_breaks_60
      · skip
        have c_8 := bz_f hw_7 c_8
        refine lv_iconst (v := 1) hx hb de_S_breaks_55 (by decide) ?_
        refine lv_goto (tgt := 60) hx hb de_S_breaks_56 (by decide) ?_
        have hfin : t = x_bt i t := by
          first | contradiction | (rw [x_bt, if_pos c_1]; done) | (rw [x_bt, if_neg c_1, if_pos c_2]; done) | (rw [x_bt, if_neg c_1, if_neg c_2, if_pos c_8]; done) | (rw [x_bt, if_neg c_1, if_neg c_2, if_neg c_8]; assumption)
        rw [hfin] at hP hD
        subst hQ
        have hpost : bz 1 (x_bp i t) := by
          first | contradiction | (subst_vars; first | exact Or.inl ⟨rfl, by rw [x_bp, if_pos c_1]; exact c_8⟩ | exact Or.inr ⟨rfl, by rw [x_bp, if_pos c_1]; exact not_not_intro c_8⟩ | exact Or.inl ⟨rfl, by rw [x_bp, if_neg c_1, if_pos c_2]; exact c_8⟩ | exact Or.inr ⟨rfl, by rw [x_bp, if_neg c_1, if_pos c_2]; exact not_not_intro c_8⟩ | exact Or.inl ⟨rfl, by rw [x_bp, if_neg c_1, if_neg c_2, if_pos c_8]; trivial⟩ | exact Or.inl ⟨rfl, by rw [x_bp, if_neg c_1, if_neg c_2, if_neg c_8]; exact c_8⟩ | exact Or.inr ⟨rfl, by rw [x_bp, if_neg c_1, if_neg c_2, if_neg c_8]; exact not_not_intro c_8⟩)
        exact W.zret (v := 1) hx hb hr (bz_nar hpost) (fun t9 ht hW => ⟨⟨1, (), rfl, hpost, by rw [ht]; exact hP, va_K.moved hW.alike hK, hD⟩, hS.F ht⟩) hS.2.2 de_S_breaks_60
  · skip
    refine lv_iload_n hx hb de_S_breaks_16 rfl (lv_at hl 0 rfl) ?_
    refine lv_bipush (v := 9) hx hb de_S_breaks_17 (by decide) ?_
    refine lv_icmp_ne (tgt := 61) hx hb de_S_breaks_19 (by decide) (fun c_9 => ?_) (fun c_9 => ?_)
    · skip
      refine lv_aload_n hx hb de_S_breaks_61 rfl (lv_at hl 1 rfl) ?_
      refine lv_iload_n hx hb de_S_breaks_62 rfl (lv_at hl 0 rfl) ?_
      refine cl_Vi (As := [.int (t.2.1 0 i)]) (rest := []) ⟨hx, hb, hml, hown, hts⟩ (mt_S_isWithoutAnswer l dC dI ad T t (t.2.1 0 i)) (cwV 1 hts (uw_V uw_368 uw_370 uw_7 uw_27 uw_371) rfl rfl rfl (by decide +kernel) ⟨Nat.le_of_ble_eq_true rfl, Nat.le_of_ble_eq_true rfl⟩) (va_recv hK hP (ci := 0) (q0 := 0) rfl rfl) rfl hl.1 rfl (Nat.le_of_ble_eq_true rfl) de_S_breaks_63 ⟨Nat.zero_le _, Nat.zero_le _⟩ hK hN hP hD hS hA (fun r_10 _ H locs hw_10 hP hD hS => ?_)
      have hw_10 : bz r_10 (x_noans (t.2.1 0 i) t) := hw_10
      refine lv_if_eq (tgt := 71) hx hb de_S_breaks_66 (by decide) (fun c_11 => ?_) (fun c_11 => ?_)
      · skip
        have c_11 := bz_f hw_10 c_11
        refine lv_aload_n hx hb de_S_breaks_71 rfl (lv_at hl 1 rfl) ?_
        refine lv_iload_n hx hb de_S_breaks_72 rfl (lv_at hl 0 rfl) ?_
        refine cl_Vv (As := [.int (t.2.1 0 i)]) (rest := []) ⟨hx, hb, hml, hown, hts⟩ (mt_S_work l dC dI ad T t (t.2.1 0 i) (show Iv t from (by refine ⟨?_, ?_, ?_, ?_, ?_, ?_⟩ <;> omega))) (cwV 1 hts (uw_V uw_372 uw_374 uw_8 uw_27 uw_375) rfl rfl rfl (by decide +kernel) ⟨Nat.le_of_ble_eq_true rfl, Nat.le_of_ble_eq_true rfl⟩) (va_recv hK hP (ci := 0) (q0 := 0) rfl rfl) rfl hl.1 rfl (Nat.le_of_ble_eq_true rfl) de_S_breaks_73 ⟨Nat.zero_le _, Nat.zero_le _⟩ hK hN hP hD hS hA (fun _ H locs hw_12 hP hD hS => ?_)
        obtain ⟨t_13, et_13⟩ : ∃ z, z = x_work (t.2.1 0 i) t := ⟨_, rfl⟩
        have hP : va_P (dC, dI) CLS (wS ad T t_13) H := by rw [et_13]; exact hP
        have hD : va_D A (wS ad T t_13) := by rw [et_13]; exact hD
        obtain ⟨_, _, _, _, _, _⟩ : N6p t_13 t := by rw [et_13]; exact nsix (x_work_N _ _)
        refine lv_aload_n hx hb de_S_breaks_76 rfl (lv_at hl 1 rfl) ?_
        refine va_get (D := (dC, dI)) (ci := 0) (v := .ref (ad 4)) (C := "StabilitySums") (T := TB_S) (N := 10) hx hb hts ui_S hown hK hP 0 rfl rfl 3 (by decide) (hts _ uw_259) (fun _ h9 => h9) rfl de_S_breaks_77 ?_
        refine lv_iload_n hx hb de_S_breaks_80 rfl (lv_at hl 2 rfl) ?_
        refine lv_aload_n hx hb de_S_breaks_81 rfl (lv_at hl 1 rfl) ?_
        refine va_get (D := (dC, dI)) (ci := 0) (v := .ref (ad 8)) (C := "StabilitySums") (T := TB_S) (N := 10) hx hb hts ui_S hown hK hP 0 rfl rfl 7 (by decide) (hts _ uw_263) (fun _ h9 => h9) rfl de_S_breaks_82 ?_
        refine cl_Vl (As := []) (rest := [.int (nI i), .ref (ad 4)]) ⟨hx, hb, hml, hown, hts⟩ (mt_F_floor l dC dI ad T t_13 ) (cwV 0 hts (uw_V uw_385 uw_386 uw_387 uw_35 uw_388) rfl rfl rfl (by decide +kernel) ⟨Nat.le_of_ble_eq_true rfl, Nat.le_of_ble_eq_true rfl⟩) (va_recv hK hP (ci := 8) (q0 := 8) rfl rfl) rfl hl.1 rfl (Nat.le_of_ble_eq_true rfl) de_S_breaks_85 ⟨Nat.zero_le _, Nat.zero_le _⟩ hK hN hP hD hS hA (fun r_14 _ H locs hw_14 hP hD hS => ?_)
        have hw_14 : r_14 = x_flr t_13 := hw_14
        refine lv_aload_n hx hb de_S_breaks_88 rfl (lv_at hl 1 rfl) ?_
        refine va_get (D := (dC, dI)) (ci := 0) (v := .ref (ad 8)) (C := "StabilitySums") (T := TB_S) (N := 10) hx hb hts ui_S hown hK hP 0 rfl rfl 7 (by decide) (hts _ uw_263) (fun _ h9 => h9) rfl de_S_breaks_89 ?_
        refine cl_Vl (As := []) (rest := [.long r_14, .int (nI i), .ref (ad 4)]) ⟨hx, hb, hml, hown, hts⟩ (mt_F_ceiling l dC dI ad T t_13 ) (cwV 0 hts (uw_V uw_390 uw_391 uw_392 uw_35 uw_393) rfl rfl rfl (by decide +kernel) ⟨Nat.le_of_ble_eq_true rfl, Nat.le_of_ble_eq_true rfl⟩) (va_recv hK hP (ci := 8) (q0 := 8) rfl rfl) rfl hl.1 rfl (Nat.le_of_ble_eq_true rfl) de_S_breaks_92 ⟨Nat.zero_le _, Nat.zero_le _⟩ hK hN hP hD hS hA (fun r_15 _ H locs hw_15 hP hD hS => ?_)
        have hw_15 : r_15 = x_cei t_13 := hw_15
        refine cl_Vi (As := [.int (nI i), .long r_14, .long r_15]) (rest := []) ⟨hx, hb, hml, hown, hts⟩ (mt_L_allows l dC dI ad T t_13 i r_14 r_15 (show i ≤ 10 from by omega)) (cwV 3 hts (uw_V uw_364 uw_365 uw_366 uw_31 uw_367) rfl rfl rfl (by decide +kernel) ⟨Nat.le_of_ble_eq_true rfl, Nat.le_of_ble_eq_true rfl⟩) (va_recv hK hP (ci := 4) (q0 := 4) rfl rfl) rfl hl.1 rfl (Nat.le_of_ble_eq_true rfl) de_S_breaks_95 ⟨Nat.zero_le _, Nat.zero_le _⟩ hK hN hP hD hS hA (fun r_16 _ H locs hw_16 hP hD hS => ?_)
        have hw_16 : bz r_16 (x_alw t_13 i r_14 r_15) := hw_16
        refine lv_if_ne (tgt := 105) hx hb de_S_breaks_98 (by decide) (fun c_17 => ?_) (fun c_17 => ?_)
        · skip
          have c_17 := bz_t hw_16 c_17
          refine lv_iconst (v := 0) hx hb de_S_breaks_105 (by decide) ?_
          have hfin : t_13 = x_bt i t := by
            first | contradiction | (rw [x_bt, if_pos c_1]; done) | (rw [x_bt, if_neg c_1, if_pos c_9]; done) | (rw [x_bt, if_neg c_1, if_neg c_9, if_pos c_11]; done) | (rw [x_bt, if_neg c_1, if_neg c_9, if_neg c_11]; assumption)
          rw [hfin] at hP hD
          subst hQ
          have hpost : bz 0 (x_bp i t) := by
            first | contradiction | (subst_vars; first | exact Or.inl ⟨rfl, by rw [x_bp, if_pos c_1]; exact c_17⟩ | exact Or.inr ⟨rfl, by rw [x_bp, if_pos c_1]; exact not_not_intro c_17⟩ | exact Or.inl ⟨rfl, by rw [x_bp, if_neg c_1, if_pos c_9]; exact c_17⟩ | exact Or.inr ⟨rfl, by rw [x_bp, if_neg c_1, if_pos c_9]; exact not_not_intro c_17⟩ | exact Or.inl ⟨rfl, by rw [x_bp, if_neg c_1, if_neg c_9, if_pos c_11]; trivial⟩ | exact Or.inl ⟨rfl, by rw [x_bp, if_neg c_1, if_neg c_9, if_neg c_11]; exact c_17⟩ | exact Or.inr ⟨rfl, by rw [x_bp, if_neg c_1, if_neg c_9, if_neg c_11]; exact not_not_intro c_17⟩)
          exact W.zret (v := 0) hx hb hr (bz_nar hpost) (fun t9 ht hW => ⟨⟨0, (), rfl, hpost, by rw [ht]; exact hP, va_K.moved hW.alike hK, hD⟩, hS.F ht⟩) hS.2.2 de_S_breaks_106
        · skip
          have c_17 := bz_f hw_16 c_17
          refine lv_iconst (v := 1) hx hb de_S_breaks_101 (by decide) ?_
          refine lv_goto (tgt := 106) hx hb de_S_breaks_102 (by decide) ?_
          have hfin : t_13 = x_bt i t := by
            first | contradiction | (rw [x_bt, if_pos c_1]; done) | (rw [x_bt, if_neg c_1, if_pos c_9]; done) | (rw [x_bt, if_neg c_1, if_neg c_9, if_pos c_11]; done) | (rw [x_bt, if_neg c_1, if_neg c_9, if_neg c_11]; assumption)
          rw [hfin] at hP hD
          subst hQ
          have hpost : bz 1 (x_bp i t) := by
            first | contradiction | (subst_vars; first | exact Or.inl ⟨rfl, by rw [x_bp, if_pos c_1]; exact c_17⟩ | exact Or.inr ⟨rfl, by rw [x_bp, if_pos c_1]; exact not_not_intro c_17⟩ | exact Or.inl ⟨rfl, by rw [x_bp, if_neg c_1, if_pos c_9]; exact c_17⟩ | exact Or.inr ⟨rfl, by rw [x_bp, if_neg c_1, if_pos c_9]; exact not_not_intro c_17⟩ | exact Or.inl ⟨rfl, by rw [x_bp, if_neg c_1, if_neg c_9, if_pos c_11]; trivial⟩ | exact Or.inl ⟨rfl, by rw [x_bp, if_neg c_1, if_neg c_9, if_neg c_11]; exact c_17⟩ | exact Or.inr ⟨rfl, by rw [x_bp, if_neg c_1, if_neg c_9, if_neg c_11]; exact not_not_intro c_17⟩)
          exact W.zret (v := 1) hx hb hr (bz_nar hpost) (fun t9 ht hW => ⟨⟨1, (), rfl, hpost, by rw [ht]; exact hP, va_K.moved hW.alike hK, hD⟩, hS.F ht⟩) hS.2.2 de_S_breaks_106
      · skip
        have c_11 := bz_t hw_10 c_11
        refine lv_iconst (v := 1) hx hb de_S_breaks_69 (by decide) ?_
        have hfin : t = x_bt i t := by
          first | contradiction | (rw [x_bt, if_pos c_1]; done) | (rw [x_bt, if_neg c_1, if_pos c_9]; done) | (rw [x_bt, if_neg c_1, if_neg c_9, if_pos c_11]; done) | (rw [x_bt, if_neg c_1, if_neg c_9, if_neg c_11]; assumption)
        rw [hfin] at hP hD
        subst hQ
        have hpost : bz 1 (x_bp i t) := by
          first | contradiction | (subst_vars; first | exact Or.inl ⟨rfl, by rw [x_bp, if_pos c_1]; exact c_11⟩ | exact Or.inr ⟨rfl, by rw [x_bp, if_pos c_1]; exact not_not_intro c_11⟩ | exact Or.inl ⟨rfl, by rw [x_bp, if_neg c_1, if_pos c_9]; exact c_11⟩ | exact Or.inr ⟨rfl, by rw [x_bp, if_neg c_1, if_pos c_9]; exact not_not_intro c_11⟩ | exact Or.inl ⟨rfl, by rw [x_bp, if_neg c_1, if_neg c_9, if_pos c_11]; trivial⟩ | exact Or.inl ⟨rfl, by rw [x_bp, if_neg c_1, if_neg c_9, if_neg c_11]; exact c_11⟩ | exact Or.inr ⟨rfl, by rw [x_bp, if_neg c_1, if_neg c_9, if_neg c_11]; exact not_not_intro c_11⟩)
        exact W.zret (v := 1) hx hb hr (bz_nar hpost) (fun t9 ht hW => ⟨⟨1, (), rfl, hpost, by rw [ht]; exact hP, va_K.moved hW.alike hK, hD⟩, hS.F ht⟩) hS.2.2 de_S_breaks_70
    · skip
      refine lv_iload_n hx hb de_S_breaks_22 rfl (lv_at hl 0 rfl) ?_
      refine lv_bipush (v := 8) hx hb de_S_breaks_23 (by decide) ?_
      refine lv_icmp_ne (tgt := 36) hx hb de_S_breaks_25 (by decide) (fun c_18 => ?_) (fun c_18 => ?_)
      · skip
        refine lv_aload_n hx hb de_S_breaks_36 rfl (lv_at hl 1 rfl) ?_
        refine lv_iload_n hx hb de_S_breaks_37 rfl (lv_at hl 2 rfl) ?_
        refine cl_Vl (As := [.int (nI i)]) (rest := []) ⟨hx, hb, hml, hown, hts⟩ (mt_S_bendingAt l dC dI ad T t i (show i ≤ 10 from by omega)) (cwV 1 hts (uw_V uw_359 uw_361 uw_6 uw_27 uw_362) rfl rfl rfl (by decide +kernel) ⟨Nat.le_of_ble_eq_true rfl, Nat.le_of_ble_eq_true rfl⟩) (va_recv hK hP (ci := 0) (q0 := 0) rfl rfl) rfl hl.1 rfl (Nat.le_of_ble_eq_true rfl) de_S_breaks_38 ⟨Nat.zero_le _, Nat.zero_le _⟩ hK hN hP hD hS hA (fun r_19 _ H locs hw_19 hP hD hS => ?_)
        have hw_19 : r_19 = x_bend t i := hw_19
        refine lv_lstore_n (lv' := [(3, .long r_19), (2, .int (t.2.1 0 i)), (0, .ref (ad 0)), (1, .int (nI i))]) hx hb de_S_breaks_41 rfl hl (by decide) rfl (fun ls hl => ?_)
        refine lv_aload_n hx hb de_S_breaks_42 rfl (lv_at hl 2 rfl) ?_
        refine va_get (D := (dC, dI)) (ci := 0) (v := .ref (ad 4)) (C := "StabilitySums") (T := TB_S) (N := 10) hx hb hts ui_S hown hK hP 0 rfl rfl 3 (by decide) (hts _ uw_259) (fun _ h9 => h9) rfl de_S_breaks_43 ?_
        refine lv_iload_n hx hb de_S_breaks_46 rfl (lv_at hl 3 rfl) ?_
        refine lv_lload_n hx hb de_S_breaks_47 rfl (lv_at hl 0 rfl) ?_
        refine lv_lload_n hx hb de_S_breaks_48 rfl (lv_at hl 0 rfl) ?_
        refine cl_Vi (As := [.int (nI i), .long r_19, .long r_19]) (rest := []) ⟨hx, hb, hml, hown, hts⟩ (mt_L_allows l dC dI ad T t i r_19 r_19 (show i ≤ 10 from by omega)) (cwV 3 hts (uw_V uw_364 uw_365 uw_366 uw_31 uw_367) rfl rfl rfl (by decide +kernel) ⟨Nat.le_of_ble_eq_true rfl, Nat.le_of_ble_eq_true rfl⟩) (va_recv hK hP (ci := 4) (q0 := 4) rfl rfl) rfl hl.1 rfl (Nat.le_of_ble_eq_true rfl) de_S_breaks_49 ⟨Nat.zero_le _, Nat.zero_le _⟩ hK hN hP hD hS hA (fun r_20 _ H locs hw_20 hP hD hS => ?_)
        have hw_20 : bz r_20 (x_alw t i r_19 r_19) := hw_20
        refine lv_if_ne (tgt := 59) hx hb de_S_breaks_52 (by decide) (fun c_21 => ?_) (fun c_21 => ?_)
        · skip
          have c_21 := bz_t hw_20 c_21
          refine lv_iconst (v := 0) hx hb de_S_breaks_59 (by decide) ?_
          have hfin : t = x_bt i t := by
            first | contradiction | (rw [x_bt, if_pos c_1]; done) | (rw [x_bt, if_neg c_1, if_pos c_9]; done) | (rw [x_bt, if_neg c_1, if_neg c_9, if_pos c_18]; done) | (rw [x_bt, if_neg c_1, if_neg c_9, if_neg c_18]; assumption)
          rw [hfin] at hP hD
          subst hQ
          have hpost : bz 0 (x_bp i t) := by
            first | contradiction | (subst_vars; first | exact Or.inl ⟨rfl, by rw [x_bp, if_pos c_1]; exact c_21⟩ | exact Or.inr ⟨rfl, by rw [x_bp, if_pos c_1]; exact not_not_intro c_21⟩ | exact Or.inl ⟨rfl, by rw [x_bp, if_neg c_1, if_pos c_9]; exact c_21⟩ | exact Or.inr ⟨rfl, by rw [x_bp, if_neg c_1, if_pos c_9]; exact not_not_intro c_21⟩ | exact Or.inl ⟨rfl, by rw [x_bp, if_neg c_1, if_neg c_9, if_pos c_18]; trivial⟩ | exact Or.inl ⟨rfl, by rw [x_bp, if_neg c_1, if_neg c_9, if_neg c_18]; exact c_21⟩ | exact Or.inr ⟨rfl, by rw [x_bp, if_neg c_1, if_neg c_9, if_neg c_18]; exact not_not_intro c_21⟩)
          exact W.zret (v := 0) hx hb hr (bz_nar hpost) (fun t9 ht hW => ⟨⟨0, (), rfl, hpost, by rw [ht]; exact hP, va_K.moved hW.alike hK, hD⟩, hS.F ht⟩) hS.2.2 de_S_breaks_60
        · skip
          have c_21 := bz_f hw_20 c_21
          refine lv_iconst (v := 1) hx hb de_S_breaks_55 (by decide) ?_
          refine lv_goto (tgt := 60) hx hb de_S_breaks_56 (by decide) ?_
          have hfin : t = x_bt i t := by
            first | contradiction | (rw [x_bt, if_pos c_1]; done) | (rw [x_bt, if_neg c_1, if_pos c_9]; done) | (rw [x_bt, if_neg c_1, if_neg c_9, if_pos c_18]; done) | (rw [x_bt, if_neg c_1, if_neg c_9, if_neg c_18]; assumption)
          rw [hfin] at hP hD
          subst hQ
          have hpost : bz 1 (x_bp i t) := by
            first | contradiction | (subst_vars; first | exact Or.inl ⟨rfl, by rw [x_bp, if_pos c_1]; exact c_21⟩ | exact Or.inr ⟨rfl, by rw [x_bp, if_pos c_1]; exact not_not_intro c_21⟩ | exact Or.inl ⟨rfl, by rw [x_bp, if_neg c_1, if_pos c_9]; exact c_21⟩ | exact Or.inr ⟨rfl, by rw [x_bp, if_neg c_1, if_pos c_9]; exact not_not_intro c_21⟩ | exact Or.inl ⟨rfl, by rw [x_bp, if_neg c_1, if_neg c_9, if_pos c_18]; trivial⟩ | exact Or.inl ⟨rfl, by rw [x_bp, if_neg c_1, if_neg c_9, if_neg c_18]; exact c_21⟩ | exact Or.inr ⟨rfl, by rw [x_bp, if_neg c_1, if_neg c_9, if_neg c_18]; exact not_not_intro c_21⟩)
          exact W.zret (v := 1) hx hb hr (bz_nar hpost) (fun t9 ht hW => ⟨⟨1, (), rfl, hpost, by rw [ht]; exact hP, va_K.moved hW.alike hK, hD⟩, hS.F ht⟩) hS.2.2 de_S_breaks_60
      · skip
        refine lv_aload_n hx hb de_S_breaks_28 rfl (lv_at hl 1 rfl) ?_
        refine lv_iload_n hx hb de_S_breaks_29 rfl (lv_at hl 2 rfl) ?_
        refine cl_Vl (As := [.int (nI i)]) (rest := []) ⟨hx, hb, hml, hown, hts⟩ (mt_S_shearAt l dC dI ad T t i (show i ≤ 10 from by omega)) (cwV 1 hts (uw_V uw_349 uw_351 uw_5 uw_27 uw_352) rfl rfl rfl (by decide +kernel) ⟨Nat.le_of_ble_eq_true rfl, Nat.le_of_ble_eq_true rfl⟩) (va_recv hK hP (ci := 0) (q0 := 0) rfl rfl) rfl hl.1 rfl (Nat.le_of_ble_eq_true rfl) de_S_breaks_30 ⟨Nat.zero_le _, Nat.zero_le _⟩ hK hN hP hD hS hA (fun r_22 _ H locs hw_22 hP hD hS => ?_)
        have hw_22 : r_22 = x_shear t i := hw_22
        refine lv_goto (tgt := 41) hx hb de_S_breaks_33 (by decide) ?_
        refine lv_lstore_n (lv' := [(3, .long r_22), (2, .int (t.2.1 0 i)), (0, .ref (ad 0)), (1, .int (nI i))]) hx hb de_S_breaks_41 rfl hl (by decide) rfl (fun ls hl => ?_)
        refine lv_aload_n hx hb de_S_breaks_42 rfl (lv_at hl 2 rfl) ?_
        refine va_get (D := (dC, dI)) (ci := 0) (v := .ref (ad 4)) (C := "StabilitySums") (T := TB_S) (N := 10) hx hb hts ui_S hown hK hP 0 rfl rfl 3 (by decide) (hts _ uw_259) (fun _ h9 => h9) rfl de_S_breaks_43 ?_
        refine lv_iload_n hx hb de_S_breaks_46 rfl (lv_at hl 3 rfl) ?_
        refine lv_lload_n hx hb de_S_breaks_47 rfl (lv_at hl 0 rfl) ?_
        refine lv_lload_n hx hb de_S_breaks_48 rfl (lv_at hl 0 rfl) ?_
        refine cl_Vi (As := [.int (nI i), .long r_22, .long r_22]) (rest := []) ⟨hx, hb, hml, hown, hts⟩ (mt_L_allows l dC dI ad T t i r_22 r_22 (show i ≤ 10 from by omega)) (cwV 3 hts (uw_V uw_364 uw_365 uw_366 uw_31 uw_367) rfl rfl rfl (by decide +kernel) ⟨Nat.le_of_ble_eq_true rfl, Nat.le_of_ble_eq_true rfl⟩) (va_recv hK hP (ci := 4) (q0 := 4) rfl rfl) rfl hl.1 rfl (Nat.le_of_ble_eq_true rfl) de_S_breaks_49 ⟨Nat.zero_le _, Nat.zero_le _⟩ hK hN hP hD hS hA (fun r_23 _ H locs hw_23 hP hD hS => ?_)
        have hw_23 : bz r_23 (x_alw t i r_22 r_22) := hw_23
        refine lv_if_ne (tgt := 59) hx hb de_S_breaks_52 (by decide) (fun c_24 => ?_) (fun c_24 => ?_)
        · skip
          have c_24 := bz_t hw_23 c_24
          refine lv_iconst (v := 0) hx hb de_S_breaks_59 (by decide) ?_
          have hfin : t = x_bt i t := by
            first | contradiction | (rw [x_bt, if_pos c_1]; done) | (rw [x_bt, if_neg c_1, if_pos c_9]; done) | (rw [x_bt, if_neg c_1, if_neg c_9, if_pos c_18]; done) | (rw [x_bt, if_neg c_1, if_neg c_9, if_neg c_18]; assumption)
          rw [hfin] at hP hD
          subst hQ
          have hpost : bz 0 (x_bp i t) := by
            first | contradiction | (subst_vars; first | exact Or.inl ⟨rfl, by rw [x_bp, if_pos c_1]; exact c_24⟩ | exact Or.inr ⟨rfl, by rw [x_bp, if_pos c_1]; exact not_not_intro c_24⟩ | exact Or.inl ⟨rfl, by rw [x_bp, if_neg c_1, if_pos c_9]; exact c_24⟩ | exact Or.inr ⟨rfl, by rw [x_bp, if_neg c_1, if_pos c_9]; exact not_not_intro c_24⟩ | exact Or.inl ⟨rfl, by rw [x_bp, if_neg c_1, if_neg c_9, if_pos c_18]; trivial⟩ | exact Or.inl ⟨rfl, by rw [x_bp, if_neg c_1, if_neg c_9, if_neg c_18]; exact c_24⟩ | exact Or.inr ⟨rfl, by rw [x_bp, if_neg c_1, if_neg c_9, if_neg c_18]; exact not_not_intro c_24⟩)
          exact W.zret (v := 0) hx hb hr (bz_nar hpost) (fun t9 ht hW => ⟨⟨0, (), rfl, hpost, by rw [ht]; exact hP, va_K.moved hW.alike hK, hD⟩, hS.F ht⟩) hS.2.2 de_S_breaks_60
        · skip
          have c_24 := bz_f hw_23 c_24
          refine lv_iconst (v := 1) hx hb de_S_breaks_55 (by decide) ?_
          refine lv_goto (tgt := 60) hx hb de_S_breaks_56 (by decide) ?_
          have hfin : t = x_bt i t := by
            first | contradiction | (rw [x_bt, if_pos c_1]; done) | (rw [x_bt, if_neg c_1, if_pos c_9]; done) | (rw [x_bt, if_neg c_1, if_neg c_9, if_pos c_18]; done) | (rw [x_bt, if_neg c_1, if_neg c_9, if_neg c_18]; assumption)
          rw [hfin] at hP hD
          subst hQ
          have hpost : bz 1 (x_bp i t) := by
            first | contradiction | (subst_vars; first | exact Or.inl ⟨rfl, by rw [x_bp, if_pos c_1]; exact c_24⟩ | exact Or.inr ⟨rfl, by rw [x_bp, if_pos c_1]; exact not_not_intro c_24⟩ | exact Or.inl ⟨rfl, by rw [x_bp, if_neg c_1, if_pos c_9]; exact c_24⟩ | exact Or.inr ⟨rfl, by rw [x_bp, if_neg c_1, if_pos c_9]; exact not_not_intro c_24⟩ | exact Or.inl ⟨rfl, by rw [x_bp, if_neg c_1, if_neg c_9, if_pos c_18]; trivial⟩ | exact Or.inl ⟨rfl, by rw [x_bp, if_neg c_1, if_neg c_9, if_neg c_18]; exact c_24⟩ | exact Or.inr ⟨rfl, by rw [x_bp, if_neg c_1, if_neg c_9, if_neg c_18]; exact not_not_intro c_24⟩)
          exact W.zret (v := 1) hx hb hr (bz_nar hpost) (fun t9 ht hW => ⟨⟨1, (), rfl, hpost, by rw [ht]; exact hP, va_K.moved hW.alike hK, hD⟩, hS.F ht⟩) hS.2.2 de_S_breaks_60
