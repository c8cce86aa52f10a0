set_option maxHeartbeats 4000000 in
set_option maxRecDepth 100000 in
theorem mt_S_weight (l : Launch) (dC : Nat → ClassId) (dI : Nat → Nat → Nat) (ad : Nat → Nat) (T : Nat → ClassId) (t : St) (a0 : Int64) (a1 : Int64) (a2 : Int64) (a3 : Int64) (hI : Iv t) (hok : okW a0 a1 a2 a3) (hc : t.2.2.2 0 < 40) (sz : Nat) : Met l yn_S_weight (.code yn_S_weight cd_S_weight 9 (some .int) :: UW) ({ frames := 6, cells := 0, slots := 0, locals := 90 } : Room) (va_Pc [.ref (ad 0), .long a0, .long a1, .long a2, .long a3] (Pw (dC, dI) CLS (TY T) (wS ad T t) sz)) (va_Qi (fun (r : Int32) (_ : Unit) => r = nI (t.2.2.2 0)) (Bw (dC, dI) CLS (TY T) (fun _ : Unit => (wS ad T (x_wapp a0 a1 a2 a3 t))) (va_A (wS ad T t) sz)) (va_A (wS ad T t) sz)) 0 0 (va_A (wS ad T t) sz) := by
  refine Met.ofW (cc := cd_S_weight) (maxL := 9) (ret := (some .int)) (by decide) rfl ?_
  intro p e s m args below meth c s₁ B hml hv
  obtain ⟨rfl, hsz, hP, hK, hD0, hN⟩ := hv
  have hx := B.exec
  have hb := B.bytes
  have hr := B.returns
  have hts : ∀ w ∈ UW, w.before _ s = true := fun w h => atoms_spec (ws := .code yn_S_weight cd_S_weight 9 (some .int) :: UW) B.pre w (List.mem_cons_of_mem _ h)
  have hown : s.vm.findClass "StabilitySums" = some m.cls := findClass_of_methodNamed B.named
  have hlocks := B.notSynchronized
  subst hsz
  have hD := hD0.self (sz := s.heap.size)
  generalize hAe : va_A (wS ad T t) s.heap.size = A at hD ⊢
  have hA : ∀ q : Nat, s.heap.size ≤ q → A q := fun q h => by rw [← hAe]; exact Or.inr h
  have hS : va_S A s.heap s.heap [] := va_S.rf
  have hl := lv_entry ([.ref (ad 0), .long a0, .long a1, .long a2, .long a3]) (n := 9) (Nat.le_of_ble_eq_true rfl)
  rw [lg_entry_eq]
  generalize (lg_sl ([.ref (ad 0), .long a0, .long a1, .long a2, .long a3]) ++ List.replicate (9 - (lg_sl ([.ref (ad 0), .long a0, .long a1, .long a2, .long a3])).length) Slot.unset).toArray = ls at hl ⊢
  have hl : lv_has ls 9 [(0, .ref (ad 0)), (1, .long a0), (3, .long a1), (5, .long a2), (7, .long a3)] := hl
  generalize hQ : MQ below _ _ s 0 0 A = Q
  obtain ⟨hI0, hI1, hI2, hI3, hI4, hI5⟩ := hI
  refine lv_lload_n hx hb de_S_weight_0 rfl (lv_at hl 1 rfl) ?_
  refine lv_lconst (v := 0) hx hb de_S_weight_1 (by decide) ?_
  refine rw_eq (tgt := 30) hx hb de_S_weight_2 de_S_weight_3 (by decide) (fun c_1 => ?_) (fun c_1 => ?_)
  · skip
    exact absurd c_1 hok.2.1
  · skip
    refine lv_lload_n hx hb de_S_weight_6 rfl (lv_at hl 1 rfl) ?_
    refine lv_ldc2 (v := (-100000)) hx hb hown (hts _ uw_444) de_S_weight_7 ?_
    refine lv_ldc2 (v := 100000) hx hb hown (hts _ uw_445) de_S_weight_10 ?_
    refine cl_Si (As := [.long a0, .long (-100000), .long 100000]) (rest := []) ⟨hx, hb, hml, hown, hts⟩ (mt_S_isWithin l dC dI ad T t a0 (-100000) 100000) (va_cwS 3 hts (uw_S uw_295 uw_296 uw_27 uw_297) rfl rfl rfl (by decide +kernel) ⟨Nat.le_of_ble_eq_true rfl, Nat.le_of_ble_eq_true rfl⟩) rfl hl.1 rfl (Nat.le_of_ble_eq_true rfl) de_S_weight_13 ⟨Nat.zero_le _, Nat.zero_le _⟩ hK hN hP hD hS hA (fun r_2 _ H locs hw_2 hP hD hS => ?_)
    have hw_2 : bz r_2 (x_in a0 (-100000) 100000) := hw_2
    refine lv_if_eq (tgt := 30) hx hb de_S_weight_16 (by decide) (fun c_3 => ?_) (fun c_3 => ?_)
    · skip
      have c_3 := bz_f hw_2 c_3
      exact absurd hok.1 c_3
    · skip
      have c_3 := bz_t hw_2 c_3
      refine lv_lload_n hx hb de_S_weight_19 rfl (lv_at hl 2 rfl) ?_
      refine lv_lload hx hb de_S_weight_20 (lv_at hl 3 rfl) ?_
      refine lv_lload hx hb de_S_weight_22 (lv_at hl 4 rfl) ?_
      refine cl_Si (As := [.long a1, .long a2, .long a3]) (rest := []) ⟨hx, hb, hml, hown, hts⟩ (mt_S_arePlaces l dC dI ad T t a1 a2 a3) (va_cwS 3 hts (uw_S uw_446 uw_447 uw_27 uw_448) rfl rfl rfl (by decide +kernel) ⟨Nat.le_of_ble_eq_true rfl, Nat.le_of_ble_eq_true rfl⟩) rfl hl.1 rfl (Nat.le_of_ble_eq_true rfl) de_S_weight_24 ⟨Nat.zero_le _, Nat.zero_le _⟩ hK hN hP hD hS hA (fun r_4 _ H locs hw_4 hP hD hS => ?_)
      have hw_4 : bz r_4 (x_pls a1 a2 a3) := hw_4
      refine lv_if_ne (tgt := 40) hx hb de_S_weight_27 (by decide) (fun c_5 => ?_) (fun c_5 => ?_)
      · skip
        have c_5 := bz_t hw_4 c_5
        refine lv_aload_n hx hb de_S_weight_40 rfl (lv_at hl 0 rfl) ?_
        refine va_get (D := (dC, dI)) (ci := 0) (v := .ref (ad 1)) (C := "StabilitySums") (T := TB_S) (N := 10) hx hb hts ui_S hown hK hP 0 rfl rfl 0 (by decide) (hts _ uw_256) (fun _ h9 => h9) rfl de_S_weight_41 ?_
        refine va_get (D := (dC, dI)) (ci := 1) (v := .int (nI (t.2.2.2 0))) (C := "StabilitySums$Weights") (T := TB_W) (N := 5) hx hb hts ui_W hown hK hP 1 rfl rfl 4 (by decide) (hts _ uw_68) (fun _ h9 => h9) rfl de_S_weight_44 ?_
        refine lv_bipush (v := 40) hx hb de_S_weight_47 (by decide) ?_
        refine lv_icmp_lt (tgt := 62) hx hb de_S_weight_49 (by decide) (fun c_6 => ?_) (fun c_6 => ?_)
        · skip
          have c_6 : (t.2.2.2 0) < 40 := (nI_ltI (a := t.2.2.2 0) (b := 40) (by omega) (by omega)).mp c_6
          refine lv_aload_n hx hb de_S_weight_62 rfl (lv_at hl 0 rfl) ?_
          refine va_get (D := (dC, dI)) (ci := 0) (v := .ref (ad 1)) (C := "StabilitySums") (T := TB_S) (N := 10) hx hb hts ui_S hown hK hP 0 rfl rfl 0 (by decide) (hts _ uw_256) (fun _ h9 => h9) rfl de_S_weight_63 ?_
          refine lv_lload_n hx hb de_S_weight_66 rfl (lv_at hl 1 rfl) ?_
          refine lv_lload_n hx hb de_S_weight_67 rfl (lv_at hl 2 rfl) ?_
          refine lv_lload hx hb de_S_weight_68 (lv_at hl 3 rfl) ?_
          refine lv_lload hx hb de_S_weight_70 (lv_at hl 4 rfl) ?_
          refine cl_Vi (As := [.long a0, .long a1, .long a2, .long a3]) (rest := []) ⟨hx, hb, hml, hown, hts⟩ (mt_W_append l dC dI ad T t a0 a1 a2 a3 (show t.2.2.2 0 < 40 from by omega)) (cwV 4 hts (uw_V uw_534 uw_535 uw_536 uw_28 uw_537) rfl rfl rfl (by decide +kernel) ⟨Nat.le_of_ble_eq_true rfl, Nat.le_of_ble_eq_true rfl⟩) (va_recv hK hP (ci := 1) (q0 := 1) rfl rfl) rfl hl.1 rfl (Nat.le_of_ble_eq_true rfl) de_S_weight_72 ⟨Nat.zero_le _, Nat.zero_le _⟩ hK hN hP hD hS hA (fun r_7 _ H locs hw_7 hP hD hS => ?_)
          have hw_7 : r_7 = nI (t.2.2.2 0) := hw_7
          subst hw_7
          obtain ⟨t_8, et_8⟩ : ∃ z, z = x_wapp a0 a1 a2 a3 t := ⟨_, rfl⟩
          have hP : va_P (dC, dI) CLS (wS ad T t_8) H := by rw [et_8]; exact hP
          have hD : va_D A (wS ad T t_8) := by rw [et_8]; exact hD
          have hfin : t_8 = x_wapp a0 a1 a2 a3 t := by
            assumption
          rw [hfin] at hP hD
          subst hQ
          have hpost : ((nI (t.2.2.2 0)) : Int32) = nI (t.2.2.2 0) := by
            rfl
          exact W.iret (v := (nI (t.2.2.2 0))) hx hb hr (fun t9 ht hW => ⟨⟨(nI (t.2.2.2 0)), (), rfl, hpost, by rw [ht]; exact hP, va_K.moved hW.alike hK, hD⟩, hS.F ht⟩) hS.2.2 de_S_weight_75
        · skip
          have c_6 : ¬ ((t.2.2.2 0) < 40) := fun z => c_6 ((nI_ltI (a := t.2.2.2 0) (b := 40) (by omega) (by omega)).mpr z)
          exact absurd hc c_6
      · skip
        have c_5 := bz_f hw_4 c_5
        exact absurd hok.2.2 c_5
set_option maxHeartbeats 4000000 in
set_option maxRecDepth 100000 in
theorem mt_S_weight_1 (l : Launch) (hlt : l.stackTraces = false) (dC : Nat → ClassId) (dI : Nat → Nat → Nat) (ad : Nat → Nat) (T : Nat → ClassId) (t : St) (a0 : Int64) (a1 : Int64) (a2 : Int64) (a3 : Int64) (hI : Iv t) (hb9 : ¬ okW a0 a1 a2 a3) (sz : Nat) : MT l yn_S_weight (.code yn_S_weight cd_S_weight 9 (some .int) :: UW) ({ frames := 6, cells := 1, slots := 6, locals := 90 } : Room) (va_Pc [.ref (ad 0), .long a0, .long a1, .long a2, .long a3] (Px (dC, dI) CLS (TY T) (wS ad T t) sz)) "java/lang/IllegalArgumentException" (fun t9 => va_P (dC, dI) CLS (wS ad T t) t9.heap ∧ va_D (va_A (wS ad T t) sz) (wS ad T t)) (va_A (wS ad T t) sz) := by
  refine MT.ofW (cc := cd_S_weight) (maxL := 9) (ret := (some .int)) (by decide) rfl ?_
  intro p e s m args below meth c s₁ B hml hv
  obtain ⟨rfl, ⟨hsz, hP, hK, hD0, hN⟩, hX⟩ := hv
  have hP0 := hP
  have hx := B.exec
  have hb := B.bytes
  have hr := B.returns
  have hts : ∀ w ∈ UW, w.before _ s = true := fun w h => atoms_spec (ws := .code yn_S_weight cd_S_weight 9 (some .int) :: UW) B.pre w (List.mem_cons_of_mem _ h)
  have hown : s.vm.findClass "StabilitySums" = some m.cls := findClass_of_methodNamed B.named
  have hlocks := B.notSynchronized
  subst hsz
  have hD := hD0.self (sz := s.heap.size)
  generalize hAe : va_A (wS ad T t) s.heap.size = A at hD ⊢
  have hA : ∀ q : Nat, s.heap.size ≤ q → A q := fun q h => by rw [← hAe]; exact Or.inr h
  have hS : va_S A s.heap s.heap [] := va_S.rf
  have hl := lv_entry ([.ref (ad 0), .long a0, .long a1, .long a2, .long a3]) (n := 9) (Nat.le_of_ble_eq_true rfl)
  rw [lg_entry_eq]
  generalize (lg_sl ([.ref (ad 0), .long a0, .long a1, .long a2, .long a3]) ++ List.replicate (9 - (lg_sl ([.ref (ad 0), .long a0, .long a1, .long a2, .long a3])).length) Slot.unset).toArray = ls at hl ⊢
  have hl : lv_has ls 9 [(0, .ref (ad 0)), (1, .long a0), (3, .long a1), (5, .long a2), (7, .long a3)] := hl
  generalize hQ : MQT below s _ _ A = Q
  obtain ⟨hI0, hI1, hI2, hI3, hI4, hI5⟩ := hI
  refine lv_lload_n hx hb de_S_weight_0 rfl (lv_at hl 1 rfl) ?_
  refine lv_lconst (v := 0) hx hb de_S_weight_1 (by decide) ?_
  refine rw_eq (tgt := 30) hx hb de_S_weight_2 de_S_weight_3 (by decide) (fun c_1 => ?_) (fun c_1 => ?_)
  · skip
    subst hQ
    subst hAe
    exact th_fin (text := "a weight can't be so") hx hb hlt hown (by decide) hts hX uw_449 uw_40 (by decide) th_o_IAE th_u_IAE hP0 (fun _ h => h) hP hD hS hA (hl.1.trans hml.symm) de_S_weight_30 de_S_weight_33 de_S_weight_34 de_S_weight_36 de_S_weight_39 (by rw [Array.isEmpty_iff.mp (B.noHandlers (hts _ uw_443))]) (Nat.le_of_ble_eq_true rfl) (Nat.le_of_ble_eq_true rfl) (Nat.le_of_ble_eq_true rfl) (Nat.le_of_ble_eq_true rfl) hlocks
  · skip
    refine lv_lload_n hx hb de_S_weight_6 rfl (lv_at hl 1 rfl) ?_
    refine lv_ldc2 (v := (-100000)) hx hb hown (hts _ uw_444) de_S_weight_7 ?_
    refine lv_ldc2 (v := 100000) hx hb hown (hts _ uw_445) de_S_weight_10 ?_
    refine cl_Si (As := [.long a0, .long (-100000), .long 100000]) (rest := []) ⟨hx, hb, hml, hown, hts⟩ (mt_S_isWithin l dC dI ad T t a0 (-100000) 100000) (va_cwS 3 hts (uw_S uw_295 uw_296 uw_27 uw_297) rfl rfl rfl (by decide +kernel) ⟨Nat.le_of_ble_eq_true rfl, Nat.le_of_ble_eq_true rfl⟩) rfl hl.1 rfl (Nat.le_of_ble_eq_true rfl) de_S_weight_13 ⟨Nat.zero_le _, Nat.zero_le _⟩ hK hN hP hD hS hA (fun r_2 _ H locs hw_2 hP hD hS => ?_)
    have hw_2 : bz r_2 (x_in a0 (-100000) 100000) := hw_2
    refine lv_if_eq (tgt := 30) hx hb de_S_weight_16 (by decide) (fun c_3 => ?_) (fun c_3 => ?_)
    · skip
      have c_3 := bz_f hw_2 c_3
      subst hQ
      subst hAe
      exact th_fin (text := "a weight can't be so") hx hb hlt hown (by decide) hts hX uw_449 uw_40 (by decide) th_o_IAE th_u_IAE hP0 (fun _ h => h) hP hD hS hA (hl.1.trans hml.symm) de_S_weight_30 de_S_weight_33 de_S_weight_34 de_S_weight_36 de_S_weight_39 (by rw [Array.isEmpty_iff.mp (B.noHandlers (hts _ uw_443))]) (Nat.le_of_ble_eq_true rfl) (Nat.le_of_ble_eq_true rfl) (Nat.le_of_ble_eq_true rfl) (Nat.le_of_ble_eq_true rfl) hlocks
    · skip
      have c_3 := bz_t hw_2 c_3
      refine lv_lload_n hx hb de_S_weight_19 rfl (lv_at hl 2 rfl) ?_
      refine lv_lload hx hb de_S_weight_20 (lv_at hl 3 rfl) ?_
      refine lv_lload hx hb de_S_weight_22 (lv_at hl 4 rfl) ?_
      refine cl_Si (As := [.long a1, .long a2, .long a3]) (rest := []) ⟨hx, hb, hml, hown, hts⟩ (mt_S_arePlaces l dC dI ad T t a1 a2 a3) (va_cwS 3 hts (uw_S uw_446 uw_447 uw_27 uw_448) rfl rfl rfl (by decide +kernel) ⟨Nat.le_of_ble_eq_true rfl, Nat.le_of_ble_eq_true rfl⟩) rfl hl.1 rfl (Nat.le_of_ble_eq_true rfl) de_S_weight_24 ⟨Nat.zero_le _, Nat.zero_le _⟩ hK hN hP hD hS hA (fun r_4 _ H locs hw_4 hP hD hS => ?_)
      have hw_4 : bz r_4 (x_pls a1 a2 a3) := hw_4
      refine lv_if_ne (tgt := 40) hx hb de_S_weight_27 (by decide) (fun c_5 => ?_) (fun c_5 => ?_)
      · skip
        have c_5 := bz_t hw_4 c_5
        exact absurd ⟨c_3, c_1, c_5⟩ hb9
      · skip
        have c_5 := bz_f hw_4 c_5
        subst hQ
        subst hAe
        exact th_fin (text := "a weight can't be so") hx hb hlt hown (by decide) hts hX uw_449 uw_40 (by decide) th_o_IAE th_u_IAE hP0 (fun _ h => h) hP hD hS hA (hl.1.trans hml.symm) de_S_weight_30 de_S_weight_33 de_S_weight_34 de_S_weight_36 de_S_weight_39 (by rw [Array.isEmpty_iff.mp (B.noHandlers (hts _ uw_443))]) (Nat.le_of_ble_eq_true rfl) (Nat.le_of_ble_eq_true rfl) (Nat.le_of_ble_eq_true rfl) (Nat.le_of_ble_eq_true rfl) hlocks
set_option maxHeartbeats 4000000 in
set_option maxRecDepth 100000 in
theorem mt_S_weight_2 (l : Launch) (hlt : l.stackTraces = false) (dC : Nat → ClassId) (dI : Nat → Nat → Nat) (ad : Nat → Nat) (T : Nat → ClassId) (t : St) (a0 : Int64) (a1 : Int64) (a2 : Int64) (a3 : Int64) (hI : Iv t) (hok : okW a0 a1 a2 a3) (hc : ¬ t.2.2.2 0 < 40) (sz : Nat) : MT l yn_S_weight (.code yn_S_weight cd_S_weight 9 (some .int) :: UW) ({ frames := 6, cells := 1, slots := 6, locals := 90 } : Room) (va_Pc [.ref (ad 0), .long a0, .long a1, .long a2, .long a3] (Px (dC, dI) CLS (TY T) (wS ad T t) sz)) "java/lang/IllegalStateException" (fun t9 => va_P (dC, dI) CLS (wS ad T t) t9.heap ∧ va_D (va_A (wS ad T t) sz) (wS ad T t)) (va_A (wS ad T t) sz) := by
  refine MT.ofW (cc := cd_S_weight) (maxL := 9) (ret := (some .int)) (by decide) rfl ?_
  intro p e s m args below meth c s₁ B hml hv
  obtain ⟨rfl, ⟨hsz, hP, hK, hD0, hN⟩, hX⟩ := hv
  have hP0 := hP
  have hx := B.exec
  have hb := B.bytes
  have hr := B.returns
  have hts : ∀ w ∈ UW, w.before _ s = true := fun w h => atoms_spec (ws := .code yn_S_weight cd_S_weight 9 (some .int) :: UW) B.pre w (List.mem_cons_of_mem _ h)
  have hown : s.vm.findClass "StabilitySums" = some m.cls := findClass_of_methodNamed B.named
  have hlocks := B.notSynchronized
  subst hsz
  have hD := hD0.self (sz := s.heap.size)
  generalize hAe : va_A (wS ad T t) s.heap.size = A at hD ⊢
  have hA : ∀ q : Nat, s.heap.size ≤ q → A q := fun q h => by rw [← hAe]; exact Or.inr h
  have hS : va_S A s.heap s.heap [] := va_S.rf
  have hl := lv_entry ([.ref (ad 0), .long a0, .long a1, .long a2, .long a3]) (n := 9) (Nat.le_of_ble_eq_true rfl)
  rw [lg_entry_eq]
  generalize (lg_sl ([.ref (ad 0), .long a0, .long a1, .long a2, .long a3]) ++ List.replicate (9 - (lg_sl ([.ref (ad 0), .long a0, .long a1, .long a2, .long a3])).length) Slot.unset).toArray = ls at hl ⊢
  have hl : lv_has ls 9 [(0, .ref (ad 0)), (1, .long a0), (3, .long a1), (5, .long a2), (7, .long a3)] := hl
  generalize hQ : MQT below s _ _ A = Q
  obtain ⟨hI0, hI1, hI2, hI3, hI4, hI5⟩ := hI
  refine lv_lload_n hx hb de_S_weight_0 rfl (lv_at hl 1 rfl) ?_
  refine lv_lconst (v := 0) hx hb de_S_weight_1 (by decide) ?_
  refine rw_eq (tgt := 30) hx hb de_S_weight_2 de_S_weight_3 (by decide) (fun c_1 => ?_) (fun c_1 => ?_)
  · skip
    exact absurd c_1 hok.2.1
  · skip
    refine lv_lload_n hx hb de_S_weight_6 rfl (lv_at hl 1 rfl) ?_
    refine lv_ldc2 (v := (-100000)) hx hb hown (hts _ uw_444) de_S_weight_7 ?_
    refine lv_ldc2 (v := 100000) hx hb hown (hts _ uw_445) de_S_weight_10 ?_
    refine cl_Si (As := [.long a0, .long (-100000), .long 100000]) (rest := []) ⟨hx, hb, hml, hown, hts⟩ (mt_S_isWithin l dC dI ad T t a0 (-100000) 100000) (va_cwS 3 hts (uw_S uw_295 uw_296 uw_27 uw_297) rfl rfl rfl (by decide +kernel) ⟨Nat.le_of_ble_eq_true rfl, Nat.le_of_ble_eq_true rfl⟩) rfl hl.1 rfl (Nat.le_of_ble_eq_true rfl) de_S_weight_13 ⟨Nat.zero_le _, Nat.zero_le _⟩ hK hN hP hD hS hA (fun r_2 _ H locs hw_2 hP hD hS => ?_)
    have hw_2 : bz r_2 (x_in a0 (-100000) 100000) := hw_2
    refine lv_if_eq (tgt := 30) hx hb de_S_weight_16 (by decide) (fun c_3 => ?_) (fun c_3 => ?_)
    · skip
      have c_3 := bz_f hw_2 c_3
      exact absurd hok.1 c_3
    · skip
      have c_3 := bz_t hw_2 c_3
      refine lv_lload_n hx hb de_S_weight_19 rfl (lv_at hl 2 rfl) ?_
      refine lv_lload hx hb de_S_weight_20 (lv_at hl 3 rfl) ?_
      refine lv_lload hx hb de_S_weight_22 (lv_at hl 4 rfl) ?_
      refine cl_Si (As := [.long a1, .long a2, .long a3]) (rest := []) ⟨hx, hb, hml, hown, hts⟩ (mt_S_arePlaces l dC dI ad T t a1 a2 a3) (va_cwS 3 hts (uw_S uw_446 uw_447 uw_27 uw_448) rfl rfl rfl (by decide +kernel) ⟨Nat.le_of_ble_eq_true rfl, Nat.le_of_ble_eq_true rfl⟩) rfl hl.1 rfl (Nat.le_of_ble_eq_true rfl) de_S_weight_24 ⟨Nat.zero_le _, Nat.zero_le _⟩ hK hN hP hD hS hA (fun r_4 _ H locs hw_4 hP hD hS => ?_)
      have hw_4 : bz r_4 (x_pls a1 a2 a3) := hw_4
      refine lv_if_ne (tgt := 40) hx hb de_S_weight_27 (by decide) (fun c_5 => ?_) (fun c_5 => ?_)
      · skip
        have c_5 := bz_t hw_4 c_5
        refine lv_aload_n hx hb de_S_weight_40 rfl (lv_at hl 0 rfl) ?_
        refine va_get (D := (dC, dI)) (ci := 0) (v := .ref (ad 1)) (C := "StabilitySums") (T := TB_S) (N := 10) hx hb hts ui_S hown hK hP 0 rfl rfl 0 (by decide) (hts _ uw_256) (fun _ h9 => h9) rfl de_S_weight_41 ?_
        refine va_get (D := (dC, dI)) (ci := 1) (v := .int (nI (t.2.2.2 0))) (C := "StabilitySums$Weights") (T := TB_W) (N := 5) hx hb hts ui_W hown hK hP 1 rfl rfl 4 (by decide) (hts _ uw_68) (fun _ h9 => h9) rfl de_S_weight_44 ?_
        refine lv_bipush (v := 40) hx hb de_S_weight_47 (by decide) ?_
        refine lv_icmp_lt (tgt := 62) hx hb de_S_weight_49 (by decide) (fun c_6 => ?_) (fun c_6 => ?_)
        · skip
          have c_6 : (t.2.2.2 0) < 40 := (nI_ltI (a := t.2.2.2 0) (b := 40) (by omega) (by omega)).mp c_6
          exact absurd c_6 hc
        · skip
          have c_6 : ¬ ((t.2.2.2 0) < 40) := fun z => c_6 ((nI_ltI (a := t.2.2.2 0) (b := 40) (by omega) (by omega)).mpr z)
          subst hQ
          subst hAe
          exact th_fin (text := "there are 40 weights") hx hb hlt hown (by decide) hts hX uw_518 uw_41 (by decide) th_o_ISE th_u_ISE hP0 (fun _ h => h) hP hD hS hA (hl.1.trans hml.symm) de_S_weight_52 de_S_weight_55 de_S_weight_56 de_S_weight_58 de_S_weight_61 (by rw [Array.isEmpty_iff.mp (B.noHandlers (hts _ uw_443))]) (Nat.le_of_ble_eq_true rfl) (Nat.le_of_ble_eq_true rfl) (Nat.le_of_ble_eq_true rfl) (Nat.le_of_ble_eq_true rfl) hlocks
      · skip
        have c_5 := bz_f hw_4 c_5
        exact absurd hok.2.2 c_5
set_option maxHeartbeats 4000000 in
set_option maxRecDepth 100000 in
theorem mt_S_tank (l : Launch) (dC : Nat → ClassId) (dI : Nat → Nat → Nat) (ad : Nat → Nat) (T : Nat → ClassId) (t : St) (a0 : Int64) (a1 : Int64) (a2 : Int64) (a3 : Int64) (a4 : Int64) (hI : Iv t) (hok : okT a0 a1 a2 a3 a4) (hc : t.2.2.2 1 < 4) (sz : Nat) : Met l yn_S_tank (.code yn_S_tank cd_S_tank 11 (some .int) :: UW) ({ frames := 6, cells := 0, slots := 0, locals := 90 } : Room) (va_Pc [.ref (ad 0), .long a0, .long a1, .long a2, .long a3, .long a4] (Pw (dC, dI) CLS (TY T) (wS ad T t) sz)) (va_Qi (fun (r : Int32) (_ : Unit) => r = nI (t.2.2.2 1)) (Bw (dC, dI) CLS (TY T) (fun _ : Unit => (wS ad T (x_tapp a0 a1 a2 a3 a4 t))) (va_A (wS ad T t) sz)) (va_A (wS ad T t) sz)) 0 0 (va_A (wS ad T t) sz) := by
  refine Met.ofW (cc := cd_S_tank) (maxL := 11) (ret := (some .int)) (by decide) rfl ?_
  intro p e s m args below meth c s₁ B hml hv
  obtain ⟨rfl, hsz, hP, hK, hD0, hN⟩ := hv
  have hx := B.exec
  have hb := B.bytes
  have hr := B.returns
  have hts : ∀ w ∈ UW, w.before _ s = true := fun w h => atoms_spec (ws := .code yn_S_tank cd_S_tank 11 (some .int) :: UW) B.pre w (List.mem_cons_of_mem _ h)
  have hown : s.vm.findClass "StabilitySums" = some m.cls := findClass_of_methodNamed B.named
  have hlocks := B.notSynchronized
  subst hsz
  have hD := hD0.self (sz := s.heap.size)
  generalize hAe : va_A (wS ad T t) s.heap.size = A at hD ⊢
  have hA : ∀ q : Nat, s.heap.size ≤ q → A q := fun q h => by rw [← hAe]; exact Or.inr h
  have hS : va_S A s.heap s.heap [] := va_S.rf
  have hl := lv_entry ([.ref (ad 0), .long a0, .long a1, .long a2, .long a3, .long a4]) (n := 11) (Nat.le_of_ble_eq_true rfl)
  rw [lg_entry_eq]
  generalize (lg_sl ([.ref (ad 0), .long a0, .long a1, .long a2, .long a3, .long a4]) ++ List.replicate (11 - (lg_sl ([.ref (ad 0), .long a0, .long a1, .long a2, .long a3, .long a4])).length) Slot.unset).toArray = ls at hl ⊢
  have hl : lv_has ls 11 [(0, .ref (ad 0)), (1, .long a0), (3, .long a1), (5, .long a2), (7, .long a3), (9, .long a4)] := hl
  generalize hQ : MQ below _ _ s 0 0 A = Q
  obtain ⟨hI0, hI1, hI2, hI3, hI4, hI5⟩ := hI
  refine lv_lload_n hx hb de_S_tank_0 rfl (lv_at hl 1 rfl) ?_
  refine lv_ldc2 (v := 4) hx hb hown (hts _ uw_407) de_S_tank_1 ?_
  refine lv_ldc2 (v := 40000) hx hb hown (hts _ uw_545) de_S_tank_4 ?_
  refine cl_Si (As := [.long a0, .long 4, .long 40000]) (rest := []) ⟨hx, hb, hml, hown, hts⟩ (mt_S_isWithin l dC dI ad T t a0 4 40000) (va_cwS 3 hts (uw_S uw_295 uw_296 uw_27 uw_297) rfl rfl rfl (by decide +kernel) ⟨Nat.le_of_ble_eq_true rfl, Nat.le_of_ble_eq_true rfl⟩) rfl hl.1 rfl (Nat.le_of_ble_eq_true rfl) de_S_tank_7 ⟨Nat.zero_le _, Nat.zero_le _⟩ hK hN hP hD hS hA (fun r_1 _ H locs hw_1 hP hD hS => ?_)
  have hw_1 : bz r_1 (x_in a0 4 40000) := hw_1
  refine lv_if_eq (tgt := 46) hx hb de_S_tank_10 (by decide) (fun c_2 => ?_) (fun c_2 => ?_)
  · skip
    have c_2 := bz_f hw_1 c_2
    exact absurd hok.1 c_2
  · skip
    have c_2 := bz_t hw_1 c_2
    refine lv_lload_n hx hb de_S_tank_13 rfl (lv_at hl 1 rfl) ?_
    refine lv_ldc2 (v := 4) hx hb hown (hts _ uw_407) de_S_tank_14 ?_
    refine lv_lrem hx hb de_S_tank_17 (by decide) ?_
    refine lv_topl (fun v_3 ev_3 => ?_)
    have ev_3 : v_3 = a0 - a0 / 4 * 4 := ev_3
    refine lv_lconst (v := 0) hx hb de_S_tank_18 (by decide) ?_
    refine rw_ne (tgt := 46) hx hb de_S_tank_19 de_S_tank_20 (by decide) (fun c_4 => ?_) (fun c_4 => ?_)
    · skip
      exact absurd (ev_3.trans hok.2.1) c_4
    · skip
      refine lv_lload_n hx hb de_S_tank_23 rfl (lv_at hl 2 rfl) ?_
      refine lv_lconst (v := 0) hx hb de_S_tank_24 (by decide) ?_
      refine lv_ldc2 (v := 1000000000) hx hb hown (hts _ uw_546) de_S_tank_25 ?_
      refine cl_Si (As := [.long a1, .long 0, .long 1000000000]) (rest := []) ⟨hx, hb, hml, hown, hts⟩ (mt_S_isWithin l dC dI ad T t a1 0 1000000000) (va_cwS 3 hts (uw_S uw_295 uw_296 uw_27 uw_297) rfl rfl rfl (by decide +kernel) ⟨Nat.le_of_ble_eq_true rfl, Nat.le_of_ble_eq_true rfl⟩) rfl hl.1 rfl (Nat.le_of_ble_eq_true rfl) de_S_tank_28 ⟨Nat.zero_le _, Nat.zero_le _⟩ hK hN hP hD hS hA (fun r_5 _ H locs hw_5 hP hD hS => ?_)
      have hw_5 : bz r_5 (x_in a1 0 1000000000) := hw_5
      refine lv_if_eq (tgt := 46) hx hb de_S_tank_31 (by decide) (fun c_6 => ?_) (fun c_6 => ?_)
      · skip
        have c_6 := bz_f hw_5 c_6
        exact absurd hok.2.2.1 c_6
      · skip
        have c_6 := bz_t hw_5 c_6
        refine lv_lload hx hb de_S_tank_34 (lv_at hl 3 rfl) ?_
        refine lv_lload hx hb de_S_tank_36 (lv_at hl 4 rfl) ?_
        refine lv_lload hx hb de_S_tank_38 (lv_at hl 5 rfl) ?_
        refine cl_Si (As := [.long a2, .long a3, .long a4]) (rest := []) ⟨hx, hb, hml, hown, hts⟩ (mt_S_arePlaces l dC dI ad T t a2 a3 a4) (va_cwS 3 hts (uw_S uw_446 uw_447 uw_27 uw_448) rfl rfl rfl (by decide +kernel) ⟨Nat.le_of_ble_eq_true rfl, Nat.le_of_ble_eq_true rfl⟩) rfl hl.1 rfl (Nat.le_of_ble_eq_true rfl) de_S_tank_40 ⟨Nat.zero_le _, Nat.zero_le _⟩ hK hN hP hD hS hA (fun r_7 _ H locs hw_7 hP hD hS => ?_)
        have hw_7 : bz r_7 (x_pls a2 a3 a4) := hw_7
        refine lv_if_ne (tgt := 56) hx hb de_S_tank_43 (by decide) (fun c_8 => ?_) (fun c_8 => ?_)
        · skip
          have c_8 := bz_t hw_7 c_8
          refine lv_aload_n hx hb de_S_tank_56 rfl (lv_at hl 0 rfl) ?_
          refine va_get (D := (dC, dI)) (ci := 0) (v := .ref (ad 2)) (C := "StabilitySums") (T := TB_S) (N := 10) hx hb hts ui_S hown hK hP 0 rfl rfl 1 (by decide) (hts _ uw_257) (fun _ h9 => h9) rfl de_S_tank_57 ?_
          refine va_get (D := (dC, dI)) (ci := 2) (v := .int (nI (t.2.2.2 1))) (C := "StabilitySums$Tanks") (T := TB_T) (N := 9) hx hb hts ui_T hown hK hP 2 rfl rfl 8 (by decide) (hts _ uw_103) (fun _ h9 => h9) rfl de_S_tank_60 ?_
          refine lv_iconst (v := 4) hx hb de_S_tank_63 (by decide) ?_
          refine lv_icmp_lt (tgt := 77) hx hb de_S_tank_64 (by decide) (fun c_9 => ?_) (fun c_9 => ?_)
          · skip
            have c_9 : (t.2.2.2 1) < 4 := (nI_ltI (a := t.2.2.2 1) (b := 4) (by omega) (by omega)).mp c_9
            refine lv_aload_n hx hb de_S_tank_77 rfl (lv_at hl 0 rfl) ?_
            refine va_get (D := (dC, dI)) (ci := 0) (v := .ref (ad 2)) (C := "StabilitySums") (T := TB_S) (N := 10) hx hb hts ui_S hown hK hP 0 rfl rfl 1 (by decide) (hts _ uw_257) (fun _ h9 => h9) rfl de_S_tank_78 ?_
            refine lv_lload_n hx hb de_S_tank_81 rfl (lv_at hl 1 rfl) ?_
            refine lv_lload_n hx hb de_S_tank_82 rfl (lv_at hl 2 rfl) ?_
            refine lv_lload hx hb de_S_tank_83 (lv_at hl 3 rfl) ?_
            refine lv_lload hx hb de_S_tank_85 (lv_at hl 4 rfl) ?_
            refine lv_lload hx hb de_S_tank_87 (lv_at hl 5 rfl) ?_
            refine cl_Vi (As := [.long a0, .long a1, .long a2, .long a3, .long a4]) (rest := []) ⟨hx, hb, hml, hown, hts⟩ (mt_T_append l dC dI ad T t a0 a1 a2 a3 a4 (show t.2.2.2 1 < 4 from by omega)) (cwV 5 hts (uw_V uw_549 uw_550 uw_551 uw_29 uw_552) rfl rfl rfl (by decide +kernel) ⟨Nat.le_of_ble_eq_true rfl, Nat.le_of_ble_eq_true rfl⟩) (va_recv hK hP (ci := 2) (q0 := 2) rfl rfl) rfl hl.1 rfl (Nat.le_of_ble_eq_true rfl) de_S_tank_89 ⟨Nat.zero_le _, Nat.zero_le _⟩ hK hN hP hD hS hA (fun r_10 _ H locs hw_10 hP hD hS => ?_)
            have hw_10 : r_10 = nI (t.2.2.2 1) := hw_10
            subst hw_10
            obtain ⟨t_11, et_11⟩ : ∃ z, z = x_tapp a0 a1 a2 a3 a4 t := ⟨_, rfl⟩
            have hP : va_P (dC, dI) CLS (wS ad T t_11) H := by rw [et_11]; exact hP
            have hD : va_D A (wS ad T t_11) := by rw [et_11]; exact hD
            have hfin : t_11 = x_tapp a0 a1 a2 a3 a4 t := by
              assumption
            rw [hfin] at hP hD
            subst hQ
            have hpost : ((nI (t.2.2.2 1)) : Int32) = nI (t.2.2.2 1) := by
              rfl
            exact W.iret (v := (nI (t.2.2.2 1))) hx hb hr (fun t9 ht hW => ⟨⟨(nI (t.2.2.2 1)), (), rfl, hpost, by rw [ht]; exact hP, va_K.moved hW.alike hK, hD⟩, hS.F ht⟩) hS.2.2 de_S_tank_92
          · skip
            have c_9 : ¬ ((t.2.2.2 1) < 4) := fun z => c_9 ((nI_ltI (a := t.2.2.2 1) (b := 4) (by omega) (by omega)).mpr z)
            exact absurd hc c_9
        · skip
          have c_8 := bz_f hw_7 c_8
          exact absurd hok.2.2.2 c_8
set_option maxHeartbeats 4000000 in
set_option maxRecDepth 100000 in
theorem mt_S_tank_1 (l : Launch) (hlt : l.stackTraces = false) (dC : Nat → ClassId) (dI : Nat → Nat → Nat) (ad : Nat → Nat) (T : Nat → ClassId) (t : St) (a0 : Int64) (a1 : Int64) (a2 : Int64) (a3 : Int64) (a4 : Int64) (hI : Iv t) (hb9 : ¬ okT a0 a1 a2 a3 a4) (sz : Nat) : MT l yn_S_tank (.code yn_S_tank cd_S_tank 11 (some .int) :: UW) ({ frames := 6, cells := 1, slots := 6, locals := 90 } : Room) (va_Pc [.ref (ad 0), .long a0, .long a1, .long a2, .long a3, .long a4] (Px (dC, dI) CLS (TY T) (wS ad T t) sz)) "java/lang/IllegalArgumentException" (fun t9 => va_P (dC, dI) CLS (wS ad T t) t9.heap ∧ va_D (va_A (wS ad T t) sz) (wS ad T t)) (va_A (wS ad T t) sz) := by
  refine MT.ofW (cc := cd_S_tank) (maxL := 11) (ret := (some .int)) (by decide) rfl ?_
  intro p e s m args below meth c s₁ B hml hv
  obtain ⟨rfl, ⟨hsz, hP, hK, hD0, hN⟩, hX⟩ := hv
  have hP0 := hP
  have hx := B.exec
  have hb := B.bytes
  have hr := B.returns
  have hts : ∀ w ∈ UW, w.before _ s = true := fun w h => atoms_spec (ws := .code yn_S_tank cd_S_tank 11 (some .int) :: UW) B.pre w (List.mem_cons_of_mem _ h)
  have hown : s.vm.findClass "StabilitySums" = some m.cls := findClass_of_methodNamed B.named
  have hlocks := B.notSynchronized
  subst hsz
  have hD := hD0.self (sz := s.heap.size)
  generalize hAe : va_A (wS ad T t) s.heap.size = A at hD ⊢
  have hA : ∀ q : Nat, s.heap.size ≤ q → A q := fun q h => by rw [← hAe]; exact Or.inr h
  have hS : va_S A s.heap s.heap [] := va_S.rf
  have hl := lv_entry ([.ref (ad 0), .long a0, .long a1, .long a2, .long a3, .long a4]) (n := 11) (Nat.le_of_ble_eq_true rfl)
  rw [lg_entry_eq]
  generalize (lg_sl ([.ref (ad 0), .long a0, .long a1, .long a2, .long a3, .long a4]) ++ List.replicate (11 - (lg_sl ([.ref (ad 0), .long a0, .long a1, .long a2, .long a3, .long a4])).length) Slot.unset).toArray = ls at hl ⊢
  have hl : lv_has ls 11 [(0, .ref (ad 0)), (1, .long a0), (3, .long a1), (5, .long a2), (7, .long a3), (9, .long a4)] := hl
  generalize hQ : MQT below s _ _ A = Q
  obtain ⟨hI0, hI1, hI2, hI3, hI4, hI5⟩ := hI
  refine lv_lload_n hx hb de_S_tank_0 rfl (lv_at hl 1 rfl) ?_
  refine lv_ldc2 (v := 4) hx hb hown (hts _ uw_407) de_S_tank_1 ?_
  refine lv_ldc2 (v := 40000) hx hb hown (hts _ uw_545) de_S_tank_4 ?_
  refine cl_Si (As := [.long a0, .long 4, .long 40000]) (rest := []) ⟨hx, hb, hml, hown, hts⟩ (mt_S_isWithin l dC dI ad T t a0 4 40000) (va_cwS 3 hts (uw_S uw_295 uw_296 uw_27 uw_297) rfl rfl rfl (by decide +kernel) ⟨Nat.le_of_ble_eq_true rfl, Nat.le_of_ble_eq_true rfl⟩) rfl hl.1 rfl (Nat.le_of_ble_eq_true rfl) de_S_tank_7 ⟨Nat.zero_le _, Nat.zero_le _⟩ hK hN hP hD hS hA (fun r_1 _ H locs hw_1 hP hD hS => ?_)
  have hw_1 : bz r_1 (x_in a0 4 40000) := hw_1
  refine lv_if_eq (tgt := 46) hx hb de_S_tank_10 (by decide) (fun c_2 => ?_) (fun c_2 => ?_)
  · skip
    have c_2 := bz_f hw_1 c_2
    subst hQ
    subst hAe
    exact th_fin (text := "a tank can't be so") hx hb hlt hown (by decide) hts hX uw_449 uw_40 (by decide) th_o_IAE th_u_IAE hP0 (fun _ h => h) hP hD hS hA (hl.1.trans hml.symm) de_S_tank_46 de_S_tank_49 de_S_tank_50 de_S_tank_52 de_S_tank_55 (by rw [Array.isEmpty_iff.mp (B.noHandlers (hts _ uw_544))]) (Nat.le_of_ble_eq_true rfl) (Nat.le_of_ble_eq_true rfl) (Nat.le_of_ble_eq_true rfl) (Nat.le_of_ble_eq_true rfl) hlocks
  · skip
    have c_2 := bz_t hw_1 c_2
    refine lv_lload_n hx hb de_S_tank_13 rfl (lv_at hl 1 rfl) ?_
    refine lv_ldc2 (v := 4) hx hb hown (hts _ uw_407) de_S_tank_14 ?_
    refine lv_lrem hx hb de_S_tank_17 (by decide) ?_
    refine lv_topl (fun v_3 ev_3 => ?_)
    have ev_3 : v_3 = a0 - a0 / 4 * 4 := ev_3
    refine lv_lconst (v := 0) hx hb de_S_tank_18 (by decide) ?_
    refine rw_ne (tgt := 46) hx hb de_S_tank_19 de_S_tank_20 (by decide) (fun c_4 => ?_) (fun c_4 => ?_)
    · skip
      subst hQ
      subst hAe
      exact th_fin (text := "a tank can't be so") hx hb hlt hown (by decide) hts hX uw_449 uw_40 (by decide) th_o_IAE th_u_IAE hP0 (fun _ h => h) hP hD hS hA (hl.1.trans hml.symm) de_S_tank_46 de_S_tank_49 de_S_tank_50 de_S_tank_52 de_S_tank_55 (by rw [Array.isEmpty_iff.mp (B.noHandlers (hts _ uw_544))]) (Nat.le_of_ble_eq_true rfl) (Nat.le_of_ble_eq_true rfl) (Nat.le_of_ble_eq_true rfl) (Nat.le_of_ble_eq_true rfl) hlocks
    · skip
      refine lv_lload_n hx hb de_S_tank_23 rfl (lv_at hl 2 rfl) ?_
      refine lv_lconst (v := 0) hx hb de_S_tank_24 (by decide) ?_
      refine lv_ldc2 (v := 1000000000) hx hb hown (hts _ uw_546) de_S_tank_25 ?_
      refine cl_Si (As := [.long a1, .long 0, .long 1000000000]) (rest := []) ⟨hx, hb, hml, hown, hts⟩ (mt_S_isWithin l dC dI ad T t a1 0 1000000000) (va_cwS 3 hts (uw_S uw_295 uw_296 uw_27 uw_297) rfl rfl rfl (by decide +kernel) ⟨Nat.le_of_ble_eq_true rfl, Nat.le_of_ble_eq_true rfl⟩) rfl hl.1 rfl (Nat.le_of_ble_eq_true rfl) de_S_tank_28 ⟨Nat.zero_le _, Nat.zero_le _⟩ hK hN hP hD hS hA (fun r_5 _ H locs hw_5 hP hD hS => ?_)
      have hw_5 : bz r_5 (x_in a1 0 1000000000) := hw_5
      refine lv_if_eq (tgt := 46) hx hb de_S_tank_31 (by decide) (fun c_6 => ?_) (fun c_6 => ?_)
      · skip
        have c_6 := bz_f hw_5 c_6
        subst hQ
        subst hAe
        exact th_fin (text := "a tank can't be so") hx hb hlt hown (by decide) hts hX uw_449 uw_40 (by decide) th_o_IAE th_u_IAE hP0 (fun _ h => h) hP hD hS hA (hl.1.trans hml.symm) de_S_tank_46 de_S_tank_49 de_S_tank_50 de_S_tank_52 de_S_tank_55 (by rw [Array.isEmpty_iff.mp (B.noHandlers (hts _ uw_544))]) (Nat.le_of_ble_eq_true rfl) (Nat.le_of_ble_eq_true rfl) (Nat.le_of_ble_eq_true rfl) (Nat.le_of_ble_eq_true rfl) hlocks
      · skip
        have c_6 := bz_t hw_5 c_6
        refine lv_lload hx hb de_S_tank_34 (lv_at hl 3 rfl) ?_
        refine lv_lload hx hb de_S_tank_36 (lv_at hl 4 rfl) ?_
        refine lv_lload hx hb de_S_tank_38 (lv_at hl 5 rfl) ?_
        refine cl_Si (As := [.long a2, .long a3, .long a4]) (rest := []) ⟨hx, hb, hml, hown, hts⟩ (mt_S_arePlaces l dC dI ad T t a2 a3 a4) (va_cwS 3 hts (uw_S uw_446 uw_447 uw_27 uw_448) rfl rfl rfl (by decide +kernel) ⟨Nat.le_of_ble_eq_true rfl, Nat.le_of_ble_eq_true rfl⟩) rfl hl.1 rfl (Nat.le_of_ble_eq_true rfl) de_S_tank_40 ⟨Nat.zero_le _, Nat.zero_le _⟩ hK hN hP hD hS hA (fun r_7 _ H locs hw_7 hP hD hS => ?_)
        have hw_7 : bz r_7 (x_pls a2 a3 a4) := hw_7
        refine lv_if_ne (tgt := 56) hx hb de_S_tank_43 (by decide) (fun c_8 => ?_) (fun c_8 => ?_)
        · skip
          have c_8 := bz_t hw_7 c_8
          exact absurd ⟨c_2, ev_3.symm.trans c_4, c_6, c_8⟩ hb9
        · skip
          have c_8 := bz_f hw_7 c_8
          subst hQ
          subst hAe
          exact th_fin (text := "a tank can't be so") hx hb hlt hown (by decide) hts hX uw_449 uw_40 (by decide) th_o_IAE th_u_IAE hP0 (fun _ h => h) hP hD hS hA (hl.1.trans hml.symm) de_S_tank_46 de_S_tank_49 de_S_tank_50 de_S_tank_52 de_S_tank_55 (by rw [Array.isEmpty_iff.mp (B.noHandlers (hts _ uw_544))]) (Nat.le_of_ble_eq_true rfl) (Nat.le_of_ble_eq_true rfl) (Nat.le_of_ble_eq_true rfl) (Nat.le_of_ble_eq_true rfl) hlocks
set_option maxHeartbeats 4000000 in
set_option maxRecDepth 100000 in
theorem mt_S_tank_2 (l : Launch) (hlt : l.stackTraces = false) (dC : Nat → ClassId) (dI : Nat → Nat → Nat) (ad : Nat → Nat) (T : Nat → ClassId) (t : St) (a0 : Int64) (a1 : Int64) (a2 : Int64) (a3 : Int64) (a4 : Int64) (hI : Iv t) (hok : okT a0 a1 a2 a3 a4) (hc : ¬ t.2.2.2 1 < 4) (sz : Nat) : MT l yn_S_tank (.code yn_S_tank cd_S_tank 11 (some .int) :: UW) ({ frames := 6, cells := 1, slots := 6, locals := 90 } : Room) (va_Pc [.ref (ad 0), .long a0, .long a1, .long a2, .long a3, .long a4] (Px (dC, dI) CLS (TY T) (wS ad T t) sz)) "java/lang/IllegalStateException" (fun t9 => va_P (dC, dI) CLS (wS ad T t) t9.heap ∧ va_D (va_A (wS ad T t) sz) (wS ad T t)) (va_A (wS ad T t) sz) := by
  refine MT.ofW (cc := cd_S_tank) (maxL := 11) (ret := (some .int)) (by decide) rfl ?_
  intro p e s m args below meth c s₁ B hml hv
  obtain ⟨rfl, ⟨hsz, hP, hK, hD0, hN⟩, hX⟩ := hv
  have hP0 := hP
  have hx := B.exec
  have hb := B.bytes
  have hr := B.returns
  have hts : ∀ w ∈ UW, w.before _ s = true := fun w h => atoms_spec (ws := .code yn_S_tank cd_S_tank 11 (some .int) :: UW) B.pre w (List.mem_cons_of_mem _ h)
  have hown : s.vm.findClass "StabilitySums" = some m.cls := findClass_of_methodNamed B.named
  have hlocks := B.notSynchronized
  subst hsz
  have hD := hD0.self (sz := s.heap.size)
  generalize hAe : va_A (wS ad T t) s.heap.size = A at hD ⊢
  have hA : ∀ q : Nat, s.heap.size ≤ q → A q := fun q h => by rw [← hAe]; exact Or.inr h
  have hS : va_S A s.heap s.heap [] := va_S.rf
  have hl := lv_entry ([.ref (ad 0), .long a0, .long a1, .long a2, .long a3, .long a4]) (n := 11) (Nat.le_of_ble_eq_true rfl)
  rw [lg_entry_eq]
  generalize (lg_sl ([.ref (ad 0), .long a0, .long a1, .long a2, .long a3, .long a4]) ++ List.replicate (11 - (lg_sl ([.ref (ad 0), .long a0, .long a1, .long a2, .long a3, .long a4])).length) Slot.unset).toArray = ls at hl ⊢
  have hl : lv_has ls 11 [(0, .ref (ad 0)), (1, .long a0), (3, .long a1), (5, .long a2), (7, .long a3), (9, .long a4)] := hl
  generalize hQ : MQT below s _ _ A = Q
  obtain ⟨hI0, hI1, hI2, hI3, hI4, hI5⟩ := hI
  refine lv_lload_n hx hb de_S_tank_0 rfl (lv_at hl 1 rfl) ?_
  refine lv_ldc2 (v := 4) hx hb hown (hts _ uw_407) de_S_tank_1 ?_
  refine lv_ldc2 (v := 40000) hx hb hown (hts _ uw_545) de_S_tank_4 ?_
  refine cl_Si (As := [.long a0, .long 4, .long 40000]) (rest := []) ⟨hx, hb, hml, hown, hts⟩ (mt_S_isWithin l dC dI ad T t a0 4 40000) (va_cwS 3 hts (uw_S uw_295 uw_296 uw_27 uw_297) rfl rfl rfl (by decide +kernel) ⟨Nat.le_of_ble_eq_true rfl, Nat.le_of_ble_eq_true rfl⟩) rfl hl.1 rfl (Nat.le_of_ble_eq_true rfl) de_S_tank_7 ⟨Nat.zero_le _, Nat.zero_le _⟩ hK hN hP hD hS hA (fun r_1 _ H locs hw_1 hP hD hS => ?_)
  have hw_1 : bz r_1 (x_in a0 4 40000) := hw_1
  refine lv_if_eq (tgt := 46) hx hb de_S_tank_10 (by decide) (fun c_2 => ?_) (fun c_2 => ?_)
  · skip
    have c_2 := bz_f hw_1 c_2
    exact absurd hok.1 c_2
  · skip
    have c_2 := bz_t hw_1 c_2
    refine lv_lload_n hx hb de_S_tank_13 rfl (lv_at hl 1 rfl) ?_
    refine lv_ldc2 (v := 4) hx hb hown (hts _ uw_407) de_S_tank_14 ?_
    refine lv_lrem hx hb de_S_tank_17 (by decide) ?_
    refine lv_topl (fun v_3 ev_3 => ?_)
    have ev_3 : v_3 = a0 - a0 / 4 * 4 := ev_3
    refine lv_lconst (v := 0) hx hb de_S_tank_18 (by decide) ?_
    refine rw_ne (tgt := 46) hx hb de_S_tank_19 de_S_tank_20 (by decide) (fun c_4 => ?_) (fun c_4 => ?_)
    · skip
      exact absurd (ev_3.trans hok.2.1) c_4
    · skip
      refine lv_lload_n hx hb de_S_tank_23 rfl (lv_at hl 2 rfl) ?_
      refine lv_lconst (v := 0) hx hb de_S_tank_24 (by decide) ?_
      refine lv_ldc2 (v := 1000000000) hx hb hown (hts _ uw_546) de_S_tank_25 ?_
      refine cl_Si (As := [.long a1, .long 0, .long 1000000000]) (rest := []) ⟨hx, hb, hml, hown, hts⟩ (mt_S_isWithin l dC dI ad T t a1 0 1000000000) (va_cwS 3 hts (uw_S uw_295 uw_296 uw_27 uw_297) rfl rfl rfl (by decide +kernel) ⟨Nat.le_of_ble_eq_true rfl, Nat.le_of_ble_eq_true rfl⟩) rfl hl.1 rfl (Nat.le_of_ble_eq_true rfl) de_S_tank_28 ⟨Nat.zero_le _, Nat.zero_le _⟩ hK hN hP hD hS hA (fun r_5 _ H locs hw_5 hP hD hS => ?_)
      have hw_5 : bz r_5 (x_in a1 0 1000000000) := hw_5
      refine lv_if_eq (tgt := 46) hx hb de_S_tank_31 (by decide) (fun c_6 => ?_) (fun c_6 => ?_)
      · skip
        have c_6 := bz_f hw_5 c_6
        exact absurd hok.2.2.1 c_6
      · skip
        have c_6 := bz_t hw_5 c_6
        refine lv_lload hx hb de_S_tank_34 (lv_at hl 3 rfl) ?_
        refine lv_lload hx hb de_S_tank_36 (lv_at hl 4 rfl) ?_
        refine lv_lload hx hb de_S_tank_38 (lv_at hl 5 rfl) ?_
        refine cl_Si (As := [.long a2, .long a3, .long a4]) (rest := []) ⟨hx, hb, hml, hown, hts⟩ (mt_S_arePlaces l dC dI ad T t a2 a3 a4) (va_cwS 3 hts (uw_S uw_446 uw_447 uw_27 uw_448) rfl rfl rfl (by decide +kernel) ⟨Nat.le_of_ble_eq_true rfl, Nat.le_of_ble_eq_true rfl⟩) rfl hl.1 rfl (Nat.le_of_ble_eq_true rfl) de_S_tank_40 ⟨Nat.zero_le _, Nat.zero_le _⟩ hK hN hP hD hS hA (fun r_7 _ H locs hw_7 hP hD hS => ?_)
        have hw_7 : bz r_7 (x_pls a2 a3 a4) := hw_7
        refine lv_if_ne (tgt := 56) hx hb de_S_tank_43 (by decide) (fun c_8 => ?_) (fun c_8 => ?_)
        · skip
          have c_8 := bz_t hw_7 c_8
          refine lv_aload_n hx hb de_S_tank_56 rfl (lv_at hl 0 rfl) ?_
          refine va_get (D := (dC, dI)) (ci := 0) (v := .ref (ad 2)) (C := "StabilitySums") (T := TB_S) (N := 10) hx hb hts ui_S hown hK hP 0 rfl rfl 1 (by decide) (hts _ uw_257) (fun _ h9 => h9) rfl de_S_tank_57 ?_
          refine va_get (D := (dC, dI)) (ci := 2) (v := .int (nI (t.2.2.2 1))) (C := "StabilitySums$Tanks") (T := TB_T) (N := 9) hx hb hts ui_T hown hK hP 2 rfl rfl 8 (by decide) (hts _ uw_103) (fun _ h9 => h9) rfl de_S_tank_60 ?_
          refine lv_iconst (v := 4) hx hb de_S_tank_63 (by decide) ?_
          refine lv_icmp_lt (tgt := 77) hx hb de_S_tank_64 (by decide) (fun c_9 => ?_) (fun c_9 => ?_)
          · skip
            have c_9 : (t.2.2.2 1) < 4 := (nI_ltI (a := t.2.2.2 1) (b := 4) (by omega) (by omega)).mp c_9
            exact absurd c_9 hc
          · skip
            have c_9 : ¬ ((t.2.2.2 1) < 4) := fun z => c_9 ((nI_ltI (a := t.2.2.2 1) (b := 4) (by omega) (by omega)).mpr z)
            subst hQ
            subst hAe
            exact th_fin (text := "there are 4 tanks") hx hb hlt hown (by decide) hts hX uw_518 uw_41 (by decide) th_o_ISE th_u_ISE hP0 (fun _ h => h) hP hD hS hA (hl.1.trans hml.symm) de_S_tank_67 de_S_tank_70 de_S_tank_71 de_S_tank_73 de_S_tank_76 (by rw [Array.isEmpty_iff.mp (B.noHandlers (hts _ uw_544))]) (Nat.le_of_ble_eq_true rfl) (Nat.le_of_ble_eq_true rfl) (Nat.le_of_ble_eq_true rfl) (Nat.le_of_ble_eq_true rfl) hlocks
        · skip
          have c_8 := bz_f hw_7 c_8
          exact absurd hok.2.2.2 c_8
set_option maxHeartbeats 4000000 in
set_option maxRecDepth 100000 in
theorem mt_S_filled (l : Launch) (dC : Nat → ClassId) (dI : Nat → Nat → Nat) (ad : Nat → Nat) (T : Nat → ClassId) (t : St) (a0 : Int32) (a1 : Int64) (hI : Iv t) (hok : x_th a0 (t.2.2.2 1)) (sz : Nat) : Met l yn_S_filled (.code yn_S_filled cd_S_filled 4 (some .int) :: UW) ({ frames := 6, cells := 0, slots := 0, locals := 90 } : Room) (va_Pc [.ref (ad 0), .int a0, .long a1] (Pw (dC, dI) CLS (TY T) (wS ad T t) sz)) (va_Qi (fun (r : Int32) (_ : Unit) => r = if x_in a1 0 (t.1 4 a0.toNatClampNeg) then 1 else 0) (Bw (dC, dI) CLS (TY T) (fun _ : Unit => (wS ad T (if x_in a1 0 (t.1 4 a0.toNatClampNeg) then sL t 9 a0.toNatClampNeg a1 else t))) (va_A (wS ad T t) sz)) (va_A (wS ad T t) sz)) 0 0 (va_A (wS ad T t) sz) := by
  refine Met.ofW (cc := cd_S_filled) (maxL := 4) (ret := (some .int)) (by decide) rfl ?_
  intro p e s m args below meth c s₁ B hml hv
  obtain ⟨rfl, hsz, hP, hK, hD0, hN⟩ := hv
  have hx := B.exec
  have hb := B.bytes
  have hr := B.returns
  have hts : ∀ w ∈ UW, w.before _ s = true := fun w h => atoms_spec (ws := .code yn_S_filled cd_S_filled 4 (some .int) :: UW) B.pre w (List.mem_cons_of_mem _ h)
  have hown : s.vm.findClass "StabilitySums" = some m.cls := findClass_of_methodNamed B.named
  have hlocks := B.notSynchronized
  subst hsz
  have hD := hD0.self (sz := s.heap.size)
  generalize hAe : va_A (wS ad T t) s.heap.size = A at hD ⊢
  have hA : ∀ q : Nat, s.heap.size ≤ q → A q := fun q h => by rw [← hAe]; exact Or.inr h
  have hS : va_S A s.heap s.heap [] := va_S.rf
  have hl := lv_entry ([.ref (ad 0), .int a0, .long a1]) (n := 4) (Nat.le_of_ble_eq_true rfl)
  rw [lg_entry_eq]
  generalize (lg_sl ([.ref (ad 0), .int a0, .long a1]) ++ List.replicate (4 - (lg_sl ([.ref (ad 0), .int a0, .long a1])).length) Slot.unset).toArray = ls at hl ⊢
  have hl : lv_has ls 4 [(0, .ref (ad 0)), (1, .int a0), (2, .long a1)] := hl
  generalize hQ : MQ below _ _ s 0 0 A = Q
  obtain ⟨hI0, hI1, hI2, hI3, hI4, hI5⟩ := hI
  refine lv_iload_n hx hb de_S_filled_0 rfl (lv_at hl 1 rfl) ?_
  refine lv_i2l (v := a0.toInt64) hx hb de_S_filled_1 rfl ?_
  refine lv_lconst (v := 0) hx hb de_S_filled_2 (by decide) ?_
  refine lv_aload_n hx hb de_S_filled_3 rfl (lv_at hl 0 rfl) ?_
  refine va_get (D := (dC, dI)) (ci := 0) (v := .ref (ad 2)) (C := "StabilitySums") (T := TB_S) (N := 10) hx hb hts ui_S hown hK hP 0 rfl rfl 1 (by decide) (hts _ uw_257) (fun _ h9 => h9) rfl de_S_filled_4 ?_
  refine va_get (D := (dC, dI)) (ci := 2) (v := .int (nI (t.2.2.2 1))) (C := "StabilitySums$Tanks") (T := TB_T) (N := 9) hx hb hts ui_T hown hK hP 2 rfl rfl 8 (by decide) (hts _ uw_103) (fun _ h9 => h9) rfl de_S_filled_7 ?_
  refine lv_i2l (v := ((nI (t.2.2.2 1)).toInt64)) hx hb de_S_filled_10 rfl ?_
  refine lv_lconst (v := 1) hx hb de_S_filled_11 (by decide) ?_
  refine lv_lsub hx hb de_S_filled_12 ?_
  refine lv_topl (fun v_1 ev_1 => ?_)
  have ev_1 : v_1 = ((nI (t.2.2.2 1)).toInt64) - 1 := ev_1
  refine cl_Si (As := [.long a0.toInt64, .long 0, .long v_1]) (rest := []) ⟨hx, hb, hml, hown, hts⟩ (mt_S_isWithin l dC dI ad T t a0.toInt64 0 v_1) (va_cwS 3 hts (uw_S uw_295 uw_296 uw_27 uw_297) rfl rfl rfl (by decide +kernel) ⟨Nat.le_of_ble_eq_true rfl, Nat.le_of_ble_eq_true rfl⟩) rfl hl.1 rfl (Nat.le_of_ble_eq_true rfl) de_S_filled_13 ⟨Nat.zero_le _, Nat.zero_le _⟩ hK hN hP hD hS hA (fun r_2 _ H locs hw_2 hP hD hS => ?_)
  have hw_2 : bz r_2 (x_in a0.toInt64 0 v_1) := hw_2
  refine lv_if_ne (tgt := 29) hx hb de_S_filled_16 (by decide) (fun c_3 => ?_) (fun c_3 => ?_)
  · skip
    have c_3 := bz_t hw_2 c_3
    refine lv_lload_n hx hb de_S_filled_29 rfl (lv_at hl 2 rfl) ?_
    refine lv_lconst (v := 0) hx hb de_S_filled_30 (by decide) ?_
    refine lv_aload_n hx hb de_S_filled_31 rfl (lv_at hl 0 rfl) ?_
    refine va_get (D := (dC, dI)) (ci := 0) (v := .ref (ad 2)) (C := "StabilitySums") (T := TB_S) (N := 10) hx hb hts ui_S hown hK hP 0 rfl rfl 1 (by decide) (hts _ uw_257) (fun _ h9 => h9) rfl de_S_filled_32 ?_
    refine va_get (D := (dC, dI)) (ci := 2) (v := .ref (ad 13)) (C := "StabilitySums$Tanks") (T := TB_T) (N := 9) hx hb hts ui_T hown hK hP 2 rfl rfl 0 (by decide) (hts _ uw_88) (fun _ h9 => h9) rfl de_S_filled_35 ?_
    refine lv_iload_n hx hb de_S_filled_38 rfl (lv_at hl 1 rfl) ?_
    have hix_39 : a0 = nI a0.toNatClampNeg := cl_eq hok.1
    refine rx_lald (f := t.1 4) (j := a0.toNatClampNeg) hx hb hK hP 13 0 rfl rfl (Nat.lt_of_lt_of_le (cl_lt hok.1 hok.2 (by omega)) (by omega)) (by decide) de_S_filled_39 hix_39 ?_
    refine cl_Si (As := [.long a1, .long 0, .long (t.1 4 a0.toNatClampNeg)]) (rest := []) ⟨hx, hb, hml, hown, hts⟩ (mt_S_isWithin l dC dI ad T t a1 0 (t.1 4 a0.toNatClampNeg)) (va_cwS 3 hts (uw_S uw_295 uw_296 uw_27 uw_297) rfl rfl rfl (by decide +kernel) ⟨Nat.le_of_ble_eq_true rfl, Nat.le_of_ble_eq_true rfl⟩) rfl hl.1 rfl (Nat.le_of_ble_eq_true rfl) de_S_filled_40 ⟨Nat.zero_le _, Nat.zero_le _⟩ hK hN hP hD hS hA (fun r_4 _ H locs hw_4 hP hD hS => ?_)
    have hw_4 : bz r_4 (x_in a1 0 (t.1 4 a0.toNatClampNeg)) := hw_4
    refine lv_if_ne (tgt := 48) hx hb de_S_filled_43 (by decide) (fun c_5 => ?_) (fun c_5 => ?_)
    · skip
      have c_5 := bz_t hw_4 c_5
      refine lv_aload_n hx hb de_S_filled_48 rfl (lv_at hl 0 rfl) ?_
      refine va_get (D := (dC, dI)) (ci := 0) (v := .ref (ad 2)) (C := "StabilitySums") (T := TB_S) (N := 10) hx hb hts ui_S hown hK hP 0 rfl rfl 1 (by decide) (hts _ uw_257) (fun _ h9 => h9) rfl de_S_filled_49 ?_
      refine va_get (D := (dC, dI)) (ci := 2) (v := .ref (ad 18)) (C := "StabilitySums$Tanks") (T := TB_T) (N := 9) hx hb hts ui_T hown hK hP 2 rfl rfl 5 (by decide) (hts _ uw_97) (fun _ h9 => h9) rfl de_S_filled_52 ?_
      refine lv_iload_n hx hb de_S_filled_55 rfl (lv_at hl 1 rfl) ?_
      refine lv_lload_n hx hb de_S_filled_56 rfl (lv_at hl 2 rfl) ?_
      have hix_57 : a0 = nI a0.toNatClampNeg := cl_eq hok.1
      refine rx_last (f := t.1 9) (j := a0.toNatClampNeg) (x := a1) hx hb hK hP hD hS 18 0 rfl rfl (Nat.lt_of_lt_of_le (cl_lt hok.1 hok.2 (by omega)) (by omega)) (by decide) de_S_filled_57 hix_57 (fun H locs hP hD hS => ?_)
      have hP : va_P (dC, dI) CLS (wS ad T (sL t 9 a0.toNatClampNeg a1)) H := hP
      have hD : va_D A (wS ad T (sL t 9 a0.toNatClampNeg a1)) := hD
      refine lv_iconst (v := 1) hx hb de_S_filled_58 (by decide) ?_
      have hfin : (sL t 9 a0.toNatClampNeg a1) = if x_in a1 0 (t.1 4 a0.toNatClampNeg) then sL t 9 a0.toNatClampNeg a1 else t := by
        rw [if_pos c_5]
      rw [hfin] at hP hD
      subst hQ
      have hpost : (1 : Int32) = if x_in a1 0 (t.1 4 a0.toNatClampNeg) then 1 else 0 := by
        rw [if_pos c_5]
      exact W.iret (v := 1) hx hb hr (fun t9 ht hW => ⟨⟨1, (), rfl, hpost, by rw [ht]; exact hP, va_K.moved hW.alike hK, hD⟩, hS.F ht⟩) hS.2.2 de_S_filled_59
    · skip
      have c_5 := bz_f hw_4 c_5
      refine lv_iconst (v := 0) hx hb de_S_filled_46 (by decide) ?_
      have hfin : t = if x_in a1 0 (t.1 4 a0.toNatClampNeg) then sL t 9 a0.toNatClampNeg a1 else t := by
        rw [if_neg c_5]
      rw [hfin] at hP hD
      subst hQ
      have hpost : (0 : Int32) = if x_in a1 0 (t.1 4 a0.toNatClampNeg) then 1 else 0 := by
        rw [if_neg c_5]
      exact W.iret (v := 0) hx hb hr (fun t9 ht hW => ⟨⟨0, (), rfl, hpost, by rw [ht]; exact hP, va_K.moved hW.alike hK, hD⟩, hS.F ht⟩) hS.2.2 de_S_filled_47
  · skip
    have c_3 := bz_f hw_2 c_3
    exact absurd ((xi_th (by assumption) (by omega)).mpr hok) c_3
set_option maxHeartbeats 4000000 in
set_option maxRecDepth 100000 in
theorem mt_S_filled_1 (l : Launch) (hlt : l.stackTraces = false) (dC : Nat → ClassId) (dI : Nat → Nat → Nat) (ad : Nat → Nat) (T : Nat → ClassId) (t : St) (a0 : Int32) (a1 : Int64) (hI : Iv t) (hb9 : ¬ x_th a0 (t.2.2.2 1)) (sz : Nat) : MT l yn_S_filled (.code yn_S_filled cd_S_filled 4 (some .int) :: UW) ({ frames := 6, cells := 1, slots := 6, locals := 90 } : Room) (va_Pc [.ref (ad 0), .int a0, .long a1] (Px (dC, dI) CLS (TY T) (wS ad T t) sz)) "java/lang/IndexOutOfBoundsException" (fun t9 => va_P (dC, dI) CLS (wS ad T t) t9.heap ∧ va_D (va_A (wS ad T t) sz) (wS ad T t)) (va_A (wS ad T t) sz) := by
  refine MT.ofW (cc := cd_S_filled) (maxL := 4) (ret := (some .int)) (by decide) rfl ?_
  intro p e s m args below meth c s₁ B hml hv
  obtain ⟨rfl, ⟨hsz, hP, hK, hD0, hN⟩, hX⟩ := hv
  have hP0 := hP
  have hx := B.exec
  have hb := B.bytes
  have hr := B.returns
  have hts : ∀ w ∈ UW, w.before _ s = true := fun w h => atoms_spec (ws := .code yn_S_filled cd_S_filled 4 (some .int) :: UW) B.pre w (List.mem_cons_of_mem _ h)
  have hown : s.vm.findClass "StabilitySums" = some m.cls := findClass_of_methodNamed B.named
  have hlocks := B.notSynchronized
  subst hsz
  have hD := hD0.self (sz := s.heap.size)
  generalize hAe : va_A (wS ad T t) s.heap.size = A at hD ⊢
  have hA : ∀ q : Nat, s.heap.size ≤ q → A q := fun q h => by rw [← hAe]; exact Or.inr h
  have hS : va_S A s.heap s.heap [] := va_S.rf
  have hl := lv_entry ([.ref (ad 0), .int a0, .long a1]) (n := 4) (Nat.le_of_ble_eq_true rfl)
  rw [lg_entry_eq]
  generalize (lg_sl ([.ref (ad 0), .int a0, .long a1]) ++ List.replicate (4 - (lg_sl ([.ref (ad 0), .int a0, .long a1])).length) Slot.unset).toArray = ls at hl ⊢
  have hl : lv_has ls 4 [(0, .ref (ad 0)), (1, .int a0), (2, .long a1)] := hl
  generalize hQ : MQT below s _ _ A = Q
  obtain ⟨hI0, hI1, hI2, hI3, hI4, hI5⟩ := hI
  refine lv_iload_n hx hb de_S_filled_0 rfl (lv_at hl 1 rfl) ?_
  refine lv_i2l (v := a0.toInt64) hx hb de_S_filled_1 rfl ?_
  refine lv_lconst (v := 0) hx hb de_S_filled_2 (by decide) ?_
  refine lv_aload_n hx hb de_S_filled_3 rfl (lv_at hl 0 rfl) ?_
  refine va_get (D := (dC, dI)) (ci := 0) (v := .ref (ad 2)) (C := "StabilitySums") (T := TB_S) (N := 10) hx hb hts ui_S hown hK hP 0 rfl rfl 1 (by decide) (hts _ uw_257) (fun _ h9 => h9) rfl de_S_filled_4 ?_
  refine va_get (D := (dC, dI)) (ci := 2) (v := .int (nI (t.2.2.2 1))) (C := "StabilitySums$Tanks") (T := TB_T) (N := 9) hx hb hts ui_T hown hK hP 2 rfl rfl 8 (by decide) (hts _ uw_103) (fun _ h9 => h9) rfl de_S_filled_7 ?_
  refine lv_i2l (v := ((nI (t.2.2.2 1)).toInt64)) hx hb de_S_filled_10 rfl ?_
  refine lv_lconst (v := 1) hx hb de_S_filled_11 (by decide) ?_
  refine lv_lsub hx hb de_S_filled_12 ?_
  refine lv_topl (fun v_1 ev_1 => ?_)
  have ev_1 : v_1 = ((nI (t.2.2.2 1)).toInt64) - 1 := ev_1
  refine cl_Si (As := [.long a0.toInt64, .long 0, .long v_1]) (rest := []) ⟨hx, hb, hml, hown, hts⟩ (mt_S_isWithin l dC dI ad T t a0.toInt64 0 v_1) (va_cwS 3 hts (uw_S uw_295 uw_296 uw_27 uw_297) rfl rfl rfl (by decide +kernel) ⟨Nat.le_of_ble_eq_true rfl, Nat.le_of_ble_eq_true rfl⟩) rfl hl.1 rfl (Nat.le_of_ble_eq_true rfl) de_S_filled_13 ⟨Nat.zero_le _, Nat.zero_le _⟩ hK hN hP hD hS hA (fun r_2 _ H locs hw_2 hP hD hS => ?_)
  have hw_2 : bz r_2 (x_in a0.toInt64 0 v_1) := hw_2
  refine lv_if_ne (tgt := 29) hx hb de_S_filled_16 (by decide) (fun c_3 => ?_) (fun c_3 => ?_)
  · skip
    have c_3 := bz_t hw_2 c_3
    exact absurd ((xi_th (by assumption) (by omega)).mp c_3) hb9
  · skip
    have c_3 := bz_f hw_2 c_3
    subst hQ
    subst hAe
    exact th_fin (text := "no such tank") hx hb hlt hown (by decide) hts hX uw_561 uw_42 (by decide) th_o_IOB th_u_IOB hP0 (fun _ h => h) hP hD hS hA (hl.1.trans hml.symm) de_S_filled_19 de_S_filled_22 de_S_filled_23 de_S_filled_25 de_S_filled_28 (by rw [Array.isEmpty_iff.mp (B.noHandlers (hts _ uw_560))]) (Nat.le_of_ble_eq_true rfl) (Nat.le_of_ble_eq_true rfl) (Nat.le_of_ble_eq_true rfl) (Nat.le_of_ble_eq_true rfl) hlocks
set_option maxHeartbeats 4000000 in
set_option maxRecDepth 100000 in
theorem mt_S_hydro (l : Launch) (dC : Nat → ClassId) (dI : Nat → Nat → Nat) (ad : Nat → Nat) (T : Nat → ClassId) (t : St) (a0 : Int64) (a1 : Int64) (a2 : Int64) (hI : Iv t) (hok : okHx a0 a1 a2 t) (hc : t.2.2.2 2 < 12) (sz : Nat) : Met l yn_S_hydro (.code yn_S_hydro cd_S_hydro 7 (some .int) :: UW) ({ frames := 6, cells := 0, slots := 0, locals := 90 } : Room) (va_Pc [.ref (ad 0), .long a0, .long a1, .long a2] (Pw (dC, dI) CLS (TY T) (wS ad T t) sz)) (va_Qi (fun (r : Int32) (_ : Unit) => r = nI (t.2.2.2 2 + 1)) (Bw (dC, dI) CLS (TY T) (fun _ : Unit => (wS ad T (x_bapp a0 a1 a2 t))) (va_A (wS ad T t) sz)) (va_A (wS ad T t) sz)) 0 0 (va_A (wS ad T t) sz) := by
  refine Met.ofW (cc := cd_S_hydro) (maxL := 7) (ret := (some .int)) (by decide) rfl ?_
  intro p e s m args below meth c s₁ B hml hv
  obtain ⟨rfl, hsz, hP, hK, hD0, hN⟩ := hv
  have hx := B.exec
  have hb := B.bytes
  have hr := B.returns
  have hts : ∀ w ∈ UW, w.before _ s = true := fun w h => atoms_spec (ws := .code yn_S_hydro cd_S_hydro 7 (some .int) :: UW) B.pre w (List.mem_cons_of_mem _ h)
  have hown : s.vm.findClass "StabilitySums" = some m.cls := findClass_of_methodNamed B.named
  have hlocks := B.notSynchronized
  subst hsz
  have hD := hD0.self (sz := s.heap.size)
  generalize hAe : va_A (wS ad T t) s.heap.size = A at hD ⊢
  have hA : ∀ q : Nat, s.heap.size ≤ q → A q := fun q h => by rw [← hAe]; exact Or.inr h
  have hS : va_S A s.heap s.heap [] := va_S.rf
  have hl := lv_entry ([.ref (ad 0), .long a0, .long a1, .long a2]) (n := 7) (Nat.le_of_ble_eq_true rfl)
  rw [lg_entry_eq]
  generalize (lg_sl ([.ref (ad 0), .long a0, .long a1, .long a2]) ++ List.replicate (7 - (lg_sl ([.ref (ad 0), .long a0, .long a1, .long a2])).length) Slot.unset).toArray = ls at hl ⊢
  have hl : lv_has ls 7 [(0, .ref (ad 0)), (1, .long a0), (3, .long a1), (5, .long a2)] := hl
  generalize hQ : MQ below _ _ s 0 0 A = Q
  obtain ⟨hI0, hI1, hI2, hI3, hI4, hI5⟩ := hI
  refine lv_lload_n hx hb de_S_hydro_0 rfl (lv_at hl 1 rfl) ?_
  refine lv_lconst (v := 1) hx hb de_S_hydro_1 (by decide) ?_
  refine lv_ldc2 (v := 5000000) hx hb hown (hts _ uw_584) de_S_hydro_2 ?_
  refine cl_Si (As := [.long a0, .long 1, .long 5000000]) (rest := []) ⟨hx, hb, hml, hown, hts⟩ (mt_S_isWithin l dC dI ad T t a0 1 5000000) (va_cwS 3 hts (uw_S uw_295 uw_296 uw_27 uw_297) rfl rfl rfl (by decide +kernel) ⟨Nat.le_of_ble_eq_true rfl, Nat.le_of_ble_eq_true rfl⟩) rfl hl.1 rfl (Nat.le_of_ble_eq_true rfl) de_S_hydro_5 ⟨Nat.zero_le _, Nat.zero_le _⟩ hK hN hP hD hS hA (fun r_1 _ H locs hw_1 hP hD hS => ?_)
  have hw_1 : bz r_1 (x_in a0 1 5000000) := hw_1
  refine lv_if_eq (tgt := 38) hx hb de_S_hydro_8 (by decide) (fun c_2 => ?_) (fun c_2 => ?_)
  · skip
    have c_2 := bz_f hw_1 c_2
    exact absurd hok.1 c_2
  · skip
    have c_2 := bz_t hw_1 c_2
    refine lv_lload_n hx hb de_S_hydro_11 rfl (lv_at hl 2 rfl) ?_
    refine cl_Si (As := [.long a1]) (rest := []) ⟨hx, hb, hml, hown, hts⟩ (mt_S_isPlace l dC dI ad T t a1) (va_cwS 1 hts (uw_S uw_291 uw_292 uw_27 uw_293) rfl rfl rfl (by decide +kernel) ⟨Nat.le_of_ble_eq_true rfl, Nat.le_of_ble_eq_true rfl⟩) rfl hl.1 rfl (Nat.le_of_ble_eq_true rfl) de_S_hydro_12 ⟨Nat.zero_le _, Nat.zero_le _⟩ hK hN hP hD hS hA (fun r_3 _ H locs hw_3 hP hD hS => ?_)
    have hw_3 : bz r_3 (x_pl a1) := hw_3
    refine lv_if_eq (tgt := 38) hx hb de_S_hydro_15 (by decide) (fun c_4 => ?_) (fun c_4 => ?_)
    · skip
      have c_4 := bz_f hw_3 c_4
      exact absurd hok.2.1 c_4
    · skip
      have c_4 := bz_t hw_3 c_4
      refine lv_lload hx hb de_S_hydro_18 (lv_at hl 3 rfl) ?_
      refine cl_Si (As := [.long a2]) (rest := []) ⟨hx, hb, hml, hown, hts⟩ (mt_S_isPlace l dC dI ad T t a2) (va_cwS 1 hts (uw_S uw_291 uw_292 uw_27 uw_293) rfl rfl rfl (by decide +kernel) ⟨Nat.le_of_ble_eq_true rfl, Nat.le_of_ble_eq_true rfl⟩) rfl hl.1 rfl (Nat.le_of_ble_eq_true rfl) de_S_hydro_20 ⟨Nat.zero_le _, Nat.zero_le _⟩ hK hN hP hD hS hA (fun r_5 _ H locs hw_5 hP hD hS => ?_)
      have hw_5 : bz r_5 (x_pl a2) := hw_5
      refine lv_if_eq (tgt := 38) hx hb de_S_hydro_23 (by decide) (fun c_6 => ?_) (fun c_6 => ?_)
      · skip
        have c_6 := bz_f hw_5 c_6
        exact absurd hok.2.2.1 c_6
      · skip
        have c_6 := bz_t hw_5 c_6
        refine lv_lload_n hx hb de_S_hydro_26 rfl (lv_at hl 1 rfl) ?_
        refine lv_aload_n hx hb de_S_hydro_27 rfl (lv_at hl 0 rfl) ?_
        refine va_get (D := (dC, dI)) (ci := 0) (v := .ref (ad 3)) (C := "StabilitySums") (T := TB_S) (N := 10) hx hb hts ui_S hown hK hP 0 rfl rfl 2 (by decide) (hts _ uw_258) (fun _ h9 => h9) rfl de_S_hydro_28 ?_
        refine cl_Vl (As := []) (rest := [.long a0]) ⟨hx, hb, hml, hown, hts⟩ (mt_B_lastDisplacement l dC dI ad T t (show t.2.2.2 2 ≤ 12 from by omega)) (cwV 0 hts (uw_V uw_585 uw_586 uw_587 uw_30 uw_588) rfl rfl rfl (by decide +kernel) ⟨Nat.le_of_ble_eq_true rfl, Nat.le_of_ble_eq_true rfl⟩) (va_recv hK hP (ci := 3) (q0 := 3) rfl rfl) rfl hl.1 rfl (Nat.le_of_ble_eq_true rfl) de_S_hydro_31 ⟨Nat.zero_le _, Nat.zero_le _⟩ hK hN hP hD hS hA (fun r_7 _ H locs hw_7 hP hD hS => ?_)
        have hw_7 : r_7 = x_last t := hw_7
        refine rw_gt (tgt := 48) hx hb de_S_hydro_34 de_S_hydro_35 (by decide) (fun c_8 => ?_) (fun c_8 => ?_)
        · skip
          refine lv_aload_n hx hb de_S_hydro_48 rfl (lv_at hl 0 rfl) ?_
          refine va_get (D := (dC, dI)) (ci := 0) (v := .ref (ad 3)) (C := "StabilitySums") (T := TB_S) (N := 10) hx hb hts ui_S hown hK hP 0 rfl rfl 2 (by decide) (hts _ uw_258) (fun _ h9 => h9) rfl de_S_hydro_49 ?_
          refine va_get (D := (dC, dI)) (ci := 3) (v := .int (nI (t.2.2.2 2))) (C := "StabilitySums$Table") (T := TB_B) (N := 4) hx hb hts ui_B hown hK hP 3 rfl rfl 3 (by decide) (hts _ uw_135) (fun _ h9 => h9) rfl de_S_hydro_52 ?_
          refine lv_bipush (v := 12) hx hb de_S_hydro_55 (by decide) ?_
          refine lv_icmp_lt (tgt := 70) hx hb de_S_hydro_57 (by decide) (fun c_9 => ?_) (fun c_9 => ?_)
          · skip
            have c_9 : (t.2.2.2 2) < 12 := (nI_ltI (a := t.2.2.2 2) (b := 12) (by omega) (by omega)).mp c_9
            refine lv_aload_n hx hb de_S_hydro_70 rfl (lv_at hl 0 rfl) ?_
            refine va_get (D := (dC, dI)) (ci := 0) (v := .ref (ad 3)) (C := "StabilitySums") (T := TB_S) (N := 10) hx hb hts ui_S hown hK hP 0 rfl rfl 2 (by decide) (hts _ uw_258) (fun _ h9 => h9) rfl de_S_hydro_71 ?_
            refine lv_lload_n hx hb de_S_hydro_74 rfl (lv_at hl 1 rfl) ?_
            refine lv_lload_n hx hb de_S_hydro_75 rfl (lv_at hl 2 rfl) ?_
            refine lv_lload hx hb de_S_hydro_76 (lv_at hl 3 rfl) ?_
            refine cl_Vi (As := [.long a0, .long a1, .long a2]) (rest := []) ⟨hx, hb, hml, hown, hts⟩ (mt_B_append l dC dI ad T t a0 a1 a2 (show t.2.2.2 2 < 12 from by omega)) (cwV 3 hts (uw_V uw_591 uw_592 uw_593 uw_30 uw_594) rfl rfl rfl (by decide +kernel) ⟨Nat.le_of_ble_eq_true rfl, Nat.le_of_ble_eq_true rfl⟩) (va_recv hK hP (ci := 3) (q0 := 3) rfl rfl) rfl hl.1 rfl (Nat.le_of_ble_eq_true rfl) de_S_hydro_78 ⟨Nat.zero_le _, Nat.zero_le _⟩ hK hN hP hD hS hA (fun r_10 _ H locs hw_10 hP hD hS => ?_)
            have hw_10 : r_10 = nI (t.2.2.2 2 + 1) := hw_10
            subst hw_10
            obtain ⟨t_11, et_11⟩ : ∃ z, z = x_bapp a0 a1 a2 t := ⟨_, rfl⟩
            have hP : va_P (dC, dI) CLS (wS ad T t_11) H := by rw [et_11]; exact hP
            have hD : va_D A (wS ad T t_11) := by rw [et_11]; exact hD
            have hfin : t_11 = x_bapp a0 a1 a2 t := by
              assumption
            rw [hfin] at hP hD
            subst hQ
            have hpost : ((nI (t.2.2.2 2 + 1)) : Int32) = nI (t.2.2.2 2 + 1) := by
              rfl
            exact W.iret (v := (nI (t.2.2.2 2 + 1))) hx hb hr (fun t9 ht hW => ⟨⟨(nI (t.2.2.2 2 + 1)), (), rfl, hpost, by rw [ht]; exact hP, va_K.moved hW.alike hK, hD⟩, hS.F ht⟩) hS.2.2 de_S_hydro_81
          · skip
            have c_9 : ¬ ((t.2.2.2 2) < 12) := fun z => c_9 ((nI_ltI (a := t.2.2.2 2) (b := 12) (by omega) (by omega)).mpr z)
            exact absurd hc c_9
        · skip
          exact absurd (by rw [hw_7]; exact hok.2.2.2) c_8
set_option maxHeartbeats 4000000 in
set_option maxRecDepth 100000 in
theorem mt_S_hydro_1 (l : Launch) (hlt : l.stackTraces = false) (dC : Nat → ClassId) (dI : Nat → Nat → Nat) (ad : Nat → Nat) (T : Nat → ClassId) (t : St) (a0 : Int64) (a1 : Int64) (a2 : Int64) (hI : Iv t) (hb9 : ¬ okHx a0 a1 a2 t) (sz : Nat) : MT l yn_S_hydro (.code yn_S_hydro cd_S_hydro 7 (some .int) :: UW) ({ frames := 6, cells := 1, slots := 6, locals := 90 } : Room) (va_Pc [.ref (ad 0), .long a0, .long a1, .long a2] (Px (dC, dI) CLS (TY T) (wS ad T t) sz)) "java/lang/IllegalArgumentException" (fun t9 => va_P (dC, dI) CLS (wS ad T t) t9.heap ∧ va_D (va_A (wS ad T t) sz) (wS ad T t)) (va_A (wS ad T t) sz) := by
  refine MT.ofW (cc := cd_S_hydro) (maxL := 7) (ret := (some .int)) (by decide) rfl ?_
  intro p e s m args below meth c s₁ B hml hv
  obtain ⟨rfl, ⟨hsz, hP, hK, hD0, hN⟩, hX⟩ := hv
  have hP0 := hP
  have hx := B.exec
  have hb := B.bytes
  have hr := B.returns
  have hts : ∀ w ∈ UW, w.before _ s = true := fun w h => atoms_spec (ws := .code yn_S_hydro cd_S_hydro 7 (some .int) :: UW) B.pre w (List.mem_cons_of_mem _ h)
  have hown : s.vm.findClass "StabilitySums" = some m.cls := findClass_of_methodNamed B.named
  have hlocks := B.notSynchronized
  subst hsz
  have hD := hD0.self (sz := s.heap.size)
  generalize hAe : va_A (wS ad T t) s.heap.size = A at hD ⊢
  have hA : ∀ q : Nat, s.heap.size ≤ q → A q := fun q h => by rw [← hAe]; exact Or.inr h
  have hS : va_S A s.heap s.heap [] := va_S.rf
  have hl := lv_entry ([.ref (ad 0), .long a0, .long a1, .long a2]) (n := 7) (Nat.le_of_ble_eq_true rfl)
  rw [lg_entry_eq]
  generalize (lg_sl ([.ref (ad 0), .long a0, .long a1, .long a2]) ++ List.replicate (7 - (lg_sl ([.ref (ad 0), .long a0, .long a1, .long a2])).length) Slot.unset).toArray = ls at hl ⊢
  have hl : lv_has ls 7 [(0, .ref (ad 0)), (1, .long a0), (3, .long a1), (5, .long a2)] := hl
  generalize hQ : MQT below s _ _ A = Q
  obtain ⟨hI0, hI1, hI2, hI3, hI4, hI5⟩ := hI
  refine lv_lload_n hx hb de_S_hydro_0 rfl (lv_at hl 1 rfl) ?_
  refine lv_lconst (v := 1) hx hb de_S_hydro_1 (by decide) ?_
  refine lv_ldc2 (v := 5000000) hx hb hown (hts _ uw_584) de_S_hydro_2 ?_
  refine cl_Si (As := [.long a0, .long 1, .long 5000000]) (rest := []) ⟨hx, hb, hml, hown, hts⟩ (mt_S_isWithin l dC dI ad T t a0 1 5000000) (va_cwS 3 hts (uw_S uw_295 uw_296 uw_27 uw_297) rfl rfl rfl (by decide +kernel) ⟨Nat.le_of_ble_eq_true rfl, Nat.le_of_ble_eq_true rfl⟩) rfl hl.1 rfl (Nat.le_of_ble_eq_true rfl) de_S_hydro_5 ⟨Nat.zero_le _, Nat.zero_le _⟩ hK hN hP hD hS hA (fun r_1 _ H locs hw_1 hP hD hS => ?_)
  have hw_1 : bz r_1 (x_in a0 1 5000000) := hw_1
  refine lv_if_eq (tgt := 38) hx hb de_S_hydro_8 (by decide) (fun c_2 => ?_) (fun c_2 => ?_)
  · skip
    have c_2 := bz_f hw_1 c_2
    subst hQ
    subst hAe
    exact th_fin (text := "a row can't be so") hx hb hlt hown (by decide) hts hX uw_449 uw_40 (by decide) th_o_IAE th_u_IAE hP0 (fun _ h => h) hP hD hS hA (hl.1.trans hml.symm) de_S_hydro_38 de_S_hydro_41 de_S_hydro_42 de_S_hydro_44 de_S_hydro_47 (by rw [Array.isEmpty_iff.mp (B.noHandlers (hts _ uw_583))]) (Nat.le_of_ble_eq_true rfl) (Nat.le_of_ble_eq_true rfl) (Nat.le_of_ble_eq_true rfl) (Nat.le_of_ble_eq_true rfl) hlocks
  · skip
    have c_2 := bz_t hw_1 c_2
    refine lv_lload_n hx hb de_S_hydro_11 rfl (lv_at hl 2 rfl) ?_
    refine cl_Si (As := [.long a1]) (rest := []) ⟨hx, hb, hml, hown, hts⟩ (mt_S_isPlace l dC dI ad T t a1) (va_cwS 1 hts (uw_S uw_291 uw_292 uw_27 uw_293) rfl rfl rfl (by decide +kernel) ⟨Nat.le_of_ble_eq_true rfl, Nat.le_of_ble_eq_true rfl⟩) rfl hl.1 rfl (Nat.le_of_ble_eq_true rfl) de_S_hydro_12 ⟨Nat.zero_le _, Nat.zero_le _⟩ hK hN hP hD hS hA (fun r_3 _ H locs hw_3 hP hD hS => ?_)
    have hw_3 : bz r_3 (x_pl a1) := hw_3
    refine lv_if_eq (tgt := 38) hx hb de_S_hydro_15 (by decide) (fun c_4 => ?_) (fun c_4 => ?_)
    · skip
      have c_4 := bz_f hw_3 c_4
      subst hQ
      subst hAe
      exact th_fin (text := "a row can't be so") hx hb hlt hown (by decide) hts hX uw_449 uw_40 (by decide) th_o_IAE th_u_IAE hP0 (fun _ h => h) hP hD hS hA (hl.1.trans hml.symm) de_S_hydro_38 de_S_hydro_41 de_S_hydro_42 de_S_hydro_44 de_S_hydro_47 (by rw [Array.isEmpty_iff.mp (B.noHandlers (hts _ uw_583))]) (Nat.le_of_ble_eq_true rfl) (Nat.le_of_ble_eq_true rfl) (Nat.le_of_ble_eq_true rfl) (Nat.le_of_ble_eq_true rfl) hlocks
    · skip
      have c_4 := bz_t hw_3 c_4
      refine lv_lload hx hb de_S_hydro_18 (lv_at hl 3 rfl) ?_
      refine cl_Si (As := [.long a2]) (rest := []) ⟨hx, hb, hml, hown, hts⟩ (mt_S_isPlace l dC dI ad T t a2) (va_cwS 1 hts (uw_S uw_291 uw_292 uw_27 uw_293) rfl rfl rfl (by decide +kernel) ⟨Nat.le_of_ble_eq_true rfl, Nat.le_of_ble_eq_true rfl⟩) rfl hl.1 rfl (Nat.le_of_ble_eq_true rfl) de_S_hydro_20 ⟨Nat.zero_le _, Nat.zero_le _⟩ hK hN hP hD hS hA (fun r_5 _ H locs hw_5 hP hD hS => ?_)
      have hw_5 : bz r_5 (x_pl a2) := hw_5
      refine lv_if_eq (tgt := 38) hx hb de_S_hydro_23 (by decide) (fun c_6 => ?_) (fun c_6 => ?_)
      · skip
        have c_6 := bz_f hw_5 c_6
        subst hQ
        subst hAe
        exact th_fin (text := "a row can't be so") hx hb hlt hown (by decide) hts hX uw_449 uw_40 (by decide) th_o_IAE th_u_IAE hP0 (fun _ h => h) hP hD hS hA (hl.1.trans hml.symm) de_S_hydro_38 de_S_hydro_41 de_S_hydro_42 de_S_hydro_44 de_S_hydro_47 (by rw [Array.isEmpty_iff.mp (B.noHandlers (hts _ uw_583))]) (Nat.le_of_ble_eq_true rfl) (Nat.le_of_ble_eq_true rfl) (Nat.le_of_ble_eq_true rfl) (Nat.le_of_ble_eq_true rfl) hlocks
      · skip
        have c_6 := bz_t hw_5 c_6
        refine lv_lload_n hx hb de_S_hydro_26 rfl (lv_at hl 1 rfl) ?_
        refine lv_aload_n hx hb de_S_hydro_27 rfl (lv_at hl 0 rfl) ?_
        refine va_get (D := (dC, dI)) (ci := 0) (v := .ref (ad 3)) (C := "StabilitySums") (T := TB_S) (N := 10) hx hb hts ui_S hown hK hP 0 rfl rfl 2 (by decide) (hts _ uw_258) (fun _ h9 => h9) rfl de_S_hydro_28 ?_
        refine cl_Vl (As := []) (rest := [.long a0]) ⟨hx, hb, hml, hown, hts⟩ (mt_B_lastDisplacement l dC dI ad T t (show t.2.2.2 2 ≤ 12 from by omega)) (cwV 0 hts (uw_V uw_585 uw_586 uw_587 uw_30 uw_588) rfl rfl rfl (by decide +kernel) ⟨Nat.le_of_ble_eq_true rfl, Nat.le_of_ble_eq_true rfl⟩) (va_recv hK hP (ci := 3) (q0 := 3) rfl rfl) rfl hl.1 rfl (Nat.le_of_ble_eq_true rfl) de_S_hydro_31 ⟨Nat.zero_le _, Nat.zero_le _⟩ hK hN hP hD hS hA (fun r_7 _ H locs hw_7 hP hD hS => ?_)
        have hw_7 : r_7 = x_last t := hw_7
        refine rw_gt (tgt := 48) hx hb de_S_hydro_34 de_S_hydro_35 (by decide) (fun c_8 => ?_) (fun c_8 => ?_)
        · skip
          exact absurd ⟨c_2, c_4, c_6, by rw [← hw_7]; exact c_8⟩ hb9
        · skip
          subst hQ
          subst hAe
          exact th_fin (text := "a row can't be so") hx hb hlt hown (by decide) hts hX uw_449 uw_40 (by decide) th_o_IAE th_u_IAE hP0 (fun _ h => h) hP hD hS hA (hl.1.trans hml.symm) de_S_hydro_38 de_S_hydro_41 de_S_hydro_42 de_S_hydro_44 de_S_hydro_47 (by rw [Array.isEmpty_iff.mp (B.noHandlers (hts _ uw_583))]) (Nat.le_of_ble_eq_true rfl) (Nat.le_of_ble_eq_true rfl) (Nat.le_of_ble_eq_true rfl) (Nat.le_of_ble_eq_true rfl) hlocks
set_option maxHeartbeats 4000000 in
set_option maxRecDepth 100000 in
theorem mt_S_hydro_2 (l : Launch) (hlt : l.stackTraces = false) (dC : Nat → ClassId) (dI : Nat → Nat → Nat) (ad : Nat → Nat) (T : Nat → ClassId) (t : St) (a0 : Int64) (a1 : Int64) (a2 : Int64) (hI : Iv t) (hok : okHx a0 a1 a2 t) (hc : ¬ t.2.2.2 2 < 12) (sz : Nat) : MT l yn_S_hydro (.code yn_S_hydro cd_S_hydro 7 (some .int) :: UW) ({ frames := 6, cells := 1, slots := 6, locals := 90 } : Room) (va_Pc [.ref (ad 0), .long a0, .long a1, .long a2] (Px (dC, dI) CLS (TY T) (wS ad T t) sz)) "java/lang/IllegalStateException" (fun t9 => va_P (dC, dI) CLS (wS ad T t) t9.heap ∧ va_D (va_A (wS ad T t) sz) (wS ad T t)) (va_A (wS ad T t) sz) := by
  refine MT.ofW (cc := cd_S_hydro) (maxL := 7) (ret := (some .int)) (by decide) rfl ?_
  intro p e s m args below meth c s₁ B hml hv
  obtain ⟨rfl, ⟨hsz, hP, hK, hD0, hN⟩, hX⟩ := hv
  have hP0 := hP
  have hx := B.exec
  have hb := B.bytes
  have hr := B.returns
  have hts : ∀ w ∈ UW, w.before _ s = true := fun w h => atoms_spec (ws := .code yn_S_hydro cd_S_hydro 7 (some .int) :: UW) B.pre w (List.mem_cons_of_mem _ h)
  have hown : s.vm.findClass "StabilitySums" = some m.cls := findClass_of_methodNamed B.named
  have hlocks := B.notSynchronized
  subst hsz
  have hD := hD0.self (sz := s.heap.size)
  generalize hAe : va_A (wS ad T t) s.heap.size = A at hD ⊢
  have hA : ∀ q : Nat, s.heap.size ≤ q → A q := fun q h => by rw [← hAe]; exact Or.inr h
  have hS : va_S A s.heap s.heap [] := va_S.rf
  have hl := lv_entry ([.ref (ad 0), .long a0, .long a1, .long a2]) (n := 7) (Nat.le_of_ble_eq_true rfl)
  rw [lg_entry_eq]
  generalize (lg_sl ([.ref (ad 0), .long a0, .long a1, .long a2]) ++ List.replicate (7 - (lg_sl ([.ref (ad 0), .long a0, .long a1, .long a2])).length) Slot.unset).toArray = ls at hl ⊢
  have hl : lv_has ls 7 [(0, .ref (ad 0)), (1, .long a0), (3, .long a1), (5, .long a2)] := hl
  generalize hQ : MQT below s _ _ A = Q
  obtain ⟨hI0, hI1, hI2, hI3, hI4, hI5⟩ := hI
  refine lv_lload_n hx hb de_S_hydro_0 rfl (lv_at hl 1 rfl) ?_
  refine lv_lconst (v := 1) hx hb de_S_hydro_1 (by decide) ?_
  refine lv_ldc2 (v := 5000000) hx hb hown (hts _ uw_584) de_S_hydro_2 ?_
  refine cl_Si (As := [.long a0, .long 1, .long 5000000]) (rest := []) ⟨hx, hb, hml, hown, hts⟩ (mt_S_isWithin l dC dI ad T t a0 1 5000000) (va_cwS 3 hts (uw_S uw_295 uw_296 uw_27 uw_297) rfl rfl rfl (by decide +kernel) ⟨Nat.le_of_ble_eq_true rfl, Nat.le_of_ble_eq_true rfl⟩) rfl hl.1 rfl (Nat.le_of_ble_eq_true rfl) de_S_hydro_5 ⟨Nat.zero_le _, Nat.zero_le _⟩ hK hN hP hD hS hA (fun r_1 _ H locs hw_1 hP hD hS => ?_)
  have hw_1 : bz r_1 (x_in a0 1 5000000) := hw_1
  refine lv_if_eq (tgt := 38) hx hb de_S_hydro_8 (by decide) (fun c_2 => ?_) (fun c_2 => ?_)
  · skip
    have c_2 := bz_f hw_1 c_2
    exact absurd hok.1 c_2
  · skip
    have c_2 := bz_t hw_1 c_2
    refine lv_lload_n hx hb de_S_hydro_11 rfl (lv_at hl 2 rfl) ?_
    refine cl_Si (As := [.long a1]) (rest := []) ⟨hx, hb, hml, hown, hts⟩ (mt_S_isPlace l dC dI ad T t a1) (va_cwS 1 hts (uw_S uw_291 uw_292 uw_27 uw_293) rfl rfl rfl (by decide +kernel) ⟨Nat.le_of_ble_eq_true rfl, Nat.le_of_ble_eq_true rfl⟩) rfl hl.1 rfl (Nat.le_of_ble_eq_true rfl) de_S_hydro_12 ⟨Nat.zero_le _, Nat.zero_le _⟩ hK hN hP hD hS hA (fun r_3 _ H locs hw_3 hP hD hS => ?_)
    have hw_3 : bz r_3 (x_pl a1) := hw_3
    refine lv_if_eq (tgt := 38) hx hb de_S_hydro_15 (by decide) (fun c_4 => ?_) (fun c_4 => ?_)
    · skip
      have c_4 := bz_f hw_3 c_4
      exact absurd hok.2.1 c_4
    · skip
      have c_4 := bz_t hw_3 c_4
      refine lv_lload hx hb de_S_hydro_18 (lv_at hl 3 rfl) ?_
      refine cl_Si (As := [.long a2]) (rest := []) ⟨hx, hb, hml, hown, hts⟩ (mt_S_isPlace l dC dI ad T t a2) (va_cwS 1 hts (uw_S uw_291 uw_292 uw_27 uw_293) rfl rfl rfl (by decide +kernel) ⟨Nat.le_of_ble_eq_true rfl, Nat.le_of_ble_eq_true rfl⟩) rfl hl.1 rfl (Nat.le_of_ble_eq_true rfl) de_S_hydro_20 ⟨Nat.zero_le _, Nat.zero_le _⟩ hK hN hP hD hS hA (fun r_5 _ H locs hw_5 hP hD hS => ?_)
      have hw_5 : bz r_5 (x_pl a2) := hw_5
      refine lv_if_eq (tgt := 38) hx hb de_S_hydro_23 (by decide) (fun c_6 => ?_) (fun c_6 => ?_)
      · skip
        have c_6 := bz_f hw_5 c_6
        exact absurd hok.2.2.1 c_6
      · skip
        have c_6 := bz_t hw_5 c_6
        refine lv_lload_n hx hb de_S_hydro_26 rfl (lv_at hl 1 rfl) ?_
        refine lv_aload_n hx hb de_S_hydro_27 rfl (lv_at hl 0 rfl) ?_
        refine va_get (D := (dC, dI)) (ci := 0) (v := .ref (ad 3)) (C := "StabilitySums") (T := TB_S) (N := 10) hx hb hts ui_S hown hK hP 0 rfl rfl 2 (by decide) (hts _ uw_258) (fun _ h9 => h9) rfl de_S_hydro_28 ?_
        refine cl_Vl (As := []) (rest := [.long a0]) ⟨hx, hb, hml, hown, hts⟩ (mt_B_lastDisplacement l dC dI ad T t (show t.2.2.2 2 ≤ 12 from by omega)) (cwV 0 hts (uw_V uw_585 uw_586 uw_587 uw_30 uw_588) rfl rfl rfl (by decide +kernel) ⟨Nat.le_of_ble_eq_true rfl, Nat.le_of_ble_eq_true rfl⟩) (va_recv hK hP (ci := 3) (q0 := 3) rfl rfl) rfl hl.1 rfl (Nat.le_of_ble_eq_true rfl) de_S_hydro_31 ⟨Nat.zero_le _, Nat.zero_le _⟩ hK hN hP hD hS hA (fun r_7 _ H locs hw_7 hP hD hS => ?_)
        have hw_7 : r_7 = x_last t := hw_7
        refine rw_gt (tgt := 48) hx hb de_S_hydro_34 de_S_hydro_35 (by decide) (fun c_8 => ?_) (fun c_8 => ?_)
        · skip
          refine lv_aload_n hx hb de_S_hydro_48 rfl (lv_at hl 0 rfl) ?_
          refine va_get (D := (dC, dI)) (ci := 0) (v := .ref (ad 3)) (C := "StabilitySums") (T := TB_S) (N := 10) hx hb hts ui_S hown hK hP 0 rfl rfl 2 (by decide) (hts _ uw_258) (fun _ h9 => h9) rfl de_S_hydro_49 ?_
          refine va_get (D := (dC, dI)) (ci := 3) (v := .int (nI (t.2.2.2 2))) (C := "StabilitySums$Table") (T := TB_B) (N := 4) hx hb hts ui_B hown hK hP 3 rfl rfl 3 (by decide) (hts _ uw_135) (fun _ h9 => h9) rfl de_S_hydro_52 ?_
          refine lv_bipush (v := 12) hx hb de_S_hydro_55 (by decide) ?_
          refine lv_icmp_lt (tgt := 70) hx hb de_S_hydro_57 (by decide) (fun c_9 => ?_) (fun c_9 => ?_)
          · skip
            have c_9 : (t.2.2.2 2) < 12 := (nI_ltI (a := t.2.2.2 2) (b := 12) (by omega) (by omega)).mp c_9
            exact absurd c_9 hc
          · skip
            have c_9 : ¬ ((t.2.2.2 2) < 12) := fun z => c_9 ((nI_ltI (a := t.2.2.2 2) (b := 12) (by omega) (by omega)).mpr z)
            subst hQ
            subst hAe
            exact th_fin (text := "there are 12 rows") hx hb hlt hown (by decide) hts hX uw_518 uw_41 (by decide) th_o_ISE th_u_ISE hP0 (fun _ h => h) hP hD hS hA (hl.1.trans hml.symm) de_S_hydro_60 de_S_hydro_63 de_S_hydro_64 de_S_hydro_66 de_S_hydro_69 (by rw [Array.isEmpty_iff.mp (B.noHandlers (hts _ uw_583))]) (Nat.le_of_ble_eq_true rfl) (Nat.le_of_ble_eq_true rfl) (Nat.le_of_ble_eq_true rfl) (Nat.le_of_ble_eq_true rfl) hlocks
        · skip
          exact absurd (by rw [hw_7]; exact hok.2.2.2) c_8
set_option maxHeartbeats 4000000 in
set_option maxRecDepth 100000 in
theorem mt_S_value (l : Launch) (dC : Nat → ClassId) (dI : Nat → Nat → Nat) (ad : Nat → Nat) (T : Nat → ClassId) (t : St) (a0 : Int32) (a1 : Int32) (hI : Iv t) (hok : okV a0 a1) (hn9 : ¬ x_noans a0 (x_gath t)) (sz : Nat) : Met l yn_S_value (.code yn_S_value cd_S_value 3 (some .long) :: UW) ({ frames := 6, cells := 0, slots := 0, locals := 92 } : Room) (va_Pc [.ref (ad 0), .int a0, .int a1] (Pw (dC, dI) CLS (TY T) (wS ad T t) sz)) (va_Ql (fun (r : Int64) (_ : Unit) => r = x_vv a0 a1 t) (Bw (dC, dI) CLS (TY T) (fun _ : Unit => (wS ad T (x_vt a0 a1 t))) (va_A (wS ad T t) sz)) (va_A (wS ad T t) sz)) 0 0 (va_A (wS ad T t) sz) := by
  refine Met.ofW (cc := cd_S_value) (maxL := 3) (ret := (some .long)) (by decide) rfl ?_
  intro p e s m args below meth c s₁ B hml hv
  obtain ⟨rfl, hsz, hP, hK, hD0, hN⟩ := hv
  have hx := B.exec
  have hb := B.bytes
  have hr := B.returns
  have hts : ∀ w ∈ UW, w.before _ s = true := fun w h => atoms_spec (ws := .code yn_S_value cd_S_value 3 (some .long) :: UW) B.pre w (List.mem_cons_of_mem _ h)
  have hown : s.vm.findClass "StabilitySums" = some m.cls := findClass_of_methodNamed B.named
  have hlocks := B.notSynchronized
  subst hsz
  have hD := hD0.self (sz := s.heap.size)
  generalize hAe : va_A (wS ad T t) s.heap.size = A at hD ⊢
  have hA : ∀ q : Nat, s.heap.size ≤ q → A q := fun q h => by rw [← hAe]; exact Or.inr h
  have hS : va_S A s.heap s.heap [] := va_S.rf
  have hl := lv_entry ([.ref (ad 0), .int a0, .int a1]) (n := 3) (Nat.le_of_ble_eq_true rfl)
  rw [lg_entry_eq]
  generalize (lg_sl ([.ref (ad 0), .int a0, .int a1]) ++ List.replicate (3 - (lg_sl ([.ref (ad 0), .int a0, .int a1])).length) Slot.unset).toArray = ls at hl ⊢
  have hl : lv_has ls 3 [(0, .ref (ad 0)), (1, .int a0), (2, .int a1)] := hl
  generalize hQ : MQ below _ _ s 0 0 A = Q
  obtain ⟨hI0, hI1, hI2, hI3, hI4, hI5⟩ := hI
  refine lv_iload_n hx hb de_S_value_0 rfl (lv_at hl 1 rfl) ?_
  refine lv_i2l (v := a0.toInt64) hx hb de_S_value_1 rfl ?_
  refine lv_lconst (v := 0) hx hb de_S_value_2 (by decide) ?_
  refine lv_ldc2 (v := 7) hx hb hown (hts _ uw_603) de_S_value_3 ?_
  refine cl_Si (As := [.long a0.toInt64, .long 0, .long 7]) (rest := []) ⟨hx, hb, hml, hown, hts⟩ (mt_S_isWithin l dC dI ad T t a0.toInt64 0 7) (va_cwS 3 hts (uw_S uw_295 uw_296 uw_27 uw_297) rfl rfl rfl (by decide +kernel) ⟨Nat.le_of_ble_eq_true rfl, Nat.le_of_ble_eq_true rfl⟩) rfl hl.1 rfl (Nat.le_of_ble_eq_true rfl) de_S_value_6 ⟨Nat.zero_le _, Nat.zero_le _⟩ hK hN hP hD hS hA (fun r_1 _ H locs hw_1 hP hD hS => ?_)
  have hw_1 : bz r_1 (x_in a0.toInt64 0 7) := hw_1
  refine lv_if_eq (tgt := 24) hx hb de_S_value_9 (by decide) (fun c_2 => ?_) (fun c_2 => ?_)
  · skip
    have c_2 := bz_f hw_1 c_2
    exact absurd (xi_07.mpr hok).1 c_2
  · skip
    have c_2 := bz_t hw_1 c_2
    refine lv_iload_n hx hb de_S_value_12 rfl (lv_at hl 2 rfl) ?_
    refine lv_i2l (v := a1.toInt64) hx hb de_S_value_13 rfl ?_
    refine lv_lconst (v := 0) hx hb de_S_value_14 (by decide) ?_
    refine lv_ldc2 (v := 2) hx hb hown (hts _ uw_363) de_S_value_15 ?_
    refine cl_Si (As := [.long a1.toInt64, .long 0, .long 2]) (rest := []) ⟨hx, hb, hml, hown, hts⟩ (mt_S_isWithin l dC dI ad T t a1.toInt64 0 2) (va_cwS 3 hts (uw_S uw_295 uw_296 uw_27 uw_297) rfl rfl rfl (by decide +kernel) ⟨Nat.le_of_ble_eq_true rfl, Nat.le_of_ble_eq_true rfl⟩) rfl hl.1 rfl (Nat.le_of_ble_eq_true rfl) de_S_value_18 ⟨Nat.zero_le _, Nat.zero_le _⟩ hK hN hP hD hS hA (fun r_3 _ H locs hw_3 hP hD hS => ?_)
    have hw_3 : bz r_3 (x_in a1.toInt64 0 2) := hw_3
    refine lv_if_ne (tgt := 34) hx hb de_S_value_21 (by decide) (fun c_4 => ?_) (fun c_4 => ?_)
    · skip
      have c_4 := bz_t hw_3 c_4
      refine lv_aload_n hx hb de_S_value_34 rfl (lv_at hl 0 rfl) ?_
      refine cl_Vv (As := []) (rest := []) ⟨hx, hb, hml, hown, hts⟩ (mt_S_gather l dC dI ad T t (show Iv t from (by refine ⟨?_, ?_, ?_, ?_, ?_, ?_⟩ <;> omega))) (cwV 0 hts (uw_V uw_302 uw_304 uw_0 uw_27 uw_305) rfl rfl rfl (by decide +kernel) ⟨Nat.le_of_ble_eq_true rfl, Nat.le_of_ble_eq_true rfl⟩) (va_recv hK hP (ci := 0) (q0 := 0) rfl rfl) rfl hl.1 rfl (Nat.le_of_ble_eq_true rfl) de_S_value_35 ⟨Nat.zero_le _, Nat.zero_le _⟩ hK hN hP hD hS hA (fun _ H locs hw_5 hP hD hS => ?_)
      obtain ⟨t_6, et_6⟩ : ∃ z, z = x_gath t := ⟨_, rfl⟩
      have hP : va_P (dC, dI) CLS (wS ad T t_6) H := by rw [et_6]; exact hP
      have hD : va_D A (wS ad T t_6) := by rw [et_6]; exact hD
      obtain ⟨_, _, _, _, _, _⟩ : t_6.2.2.2 0 = t.2.2.2 0 ∧ t_6.2.2.2 1 = t.2.2.2 1 ∧ t_6.2.2.2 2 = t.2.2.2 2 ∧ t_6.2.2.2 3 = t.2.2.2 3 ∧ t_6.2.2.2 4 = t.2.2.2 4 ∧ t_6.2.2.2 5 = t.2.2.2 3 := by rw [et_6]; exact x_gath_6 t
      refine lv_aload_n hx hb de_S_value_38 rfl (lv_at hl 0 rfl) ?_
      refine lv_iload_n hx hb de_S_value_39 rfl (lv_at hl 1 rfl) ?_
      refine cl_Vi (As := [.int a0]) (rest := []) ⟨hx, hb, hml, hown, hts⟩ (mt_S_isWithoutAnswer l dC dI ad T t_6 a0) (cwV 1 hts (uw_V uw_368 uw_370 uw_7 uw_27 uw_371) rfl rfl rfl (by decide +kernel) ⟨Nat.le_of_ble_eq_true rfl, Nat.le_of_ble_eq_true rfl⟩) (va_recv hK hP (ci := 0) (q0 := 0) rfl rfl) rfl hl.1 rfl (Nat.le_of_ble_eq_true rfl) de_S_value_40 ⟨Nat.zero_le _, Nat.zero_le _⟩ hK hN hP hD hS hA (fun r_7 _ H locs hw_7 hP hD hS => ?_)
      have hw_7 : bz r_7 (x_noans a0 t_6) := hw_7
      refine lv_if_eq (tgt := 56) hx hb de_S_value_43 (by decide) (fun c_8 => ?_) (fun c_8 => ?_)
      · skip
        have c_8 := bz_f hw_7 c_8
        refine lv_aload_n hx hb de_S_value_56 rfl (lv_at hl 0 rfl) ?_
        refine lv_iload_n hx hb de_S_value_57 rfl (lv_at hl 1 rfl) ?_
        refine cl_Vv (As := [.int a0]) (rest := []) ⟨hx, hb, hml, hown, hts⟩ (mt_S_work l dC dI ad T t_6 a0 (show Iv t_6 from (by refine ⟨?_, ?_, ?_, ?_, ?_, ?_⟩ <;> omega))) (cwV 1 hts (uw_V uw_372 uw_374 uw_8 uw_27 uw_375) rfl rfl rfl (by decide +kernel) ⟨Nat.le_of_ble_eq_true rfl, Nat.le_of_ble_eq_true rfl⟩) (va_recv hK hP (ci := 0) (q0 := 0) rfl rfl) rfl hl.1 rfl (Nat.le_of_ble_eq_true rfl) de_S_value_58 ⟨Nat.zero_le _, Nat.zero_le _⟩ hK hN hP hD hS hA (fun _ H locs hw_9 hP hD hS => ?_)
        obtain ⟨t_10, et_10⟩ : ∃ z, z = x_work a0 t_6 := ⟨_, rfl⟩
        have hP : va_P (dC, dI) CLS (wS ad T t_10) H := by rw [et_10]; exact hP
        have hD : va_D A (wS ad T t_10) := by rw [et_10]; exact hD
        obtain ⟨_, _, _, _, _, _⟩ : N6p t_10 t_6 := by rw [et_10]; exact nsix (x_work_N _ _)
        refine lv_iload_n hx hb de_S_value_61 rfl (lv_at hl 2 rfl) ?_
        refine lv_if_ne (tgt := 73) hx hb de_S_value_62 (by decide) (fun c_11 => ?_) (fun c_11 => ?_)
        · skip
          refine lv_aload_n hx hb de_S_value_73 rfl (lv_at hl 0 rfl) ?_
          refine va_get (D := (dC, dI)) (ci := 0) (v := .ref (ad 8)) (C := "StabilitySums") (T := TB_S) (N := 10) hx hb hts ui_S hown hK hP 0 rfl rfl 7 (by decide) (hts _ uw_263) (fun _ h9 => h9) rfl de_S_value_74 ?_
          refine cl_Vv (As := []) (rest := []) ⟨hx, hb, hml, hown, hts⟩ (mt_F_reduce l dC dI ad T t_10 ) (cwV 0 hts (uw_V uw_621 uw_622 uw_623 uw_35 uw_624) rfl rfl rfl (by decide +kernel) ⟨Nat.le_of_ble_eq_true rfl, Nat.le_of_ble_eq_true rfl⟩) (va_recv hK hP (ci := 8) (q0 := 8) rfl rfl) rfl hl.1 rfl (Nat.le_of_ble_eq_true rfl) de_S_value_77 ⟨Nat.zero_le _, Nat.zero_le _⟩ hK hN hP hD hS hA (fun _ H locs hw_12 hP hD hS => ?_)
          obtain ⟨t_13, et_13⟩ : ∃ z, z = x_red t_10 := ⟨_, rfl⟩
          have hP : va_P (dC, dI) CLS (wS ad T t_13) H := by rw [et_13]; exact hP
          have hD : va_D A (wS ad T t_13) := by rw [et_13]; exact hD
          refine lv_iload_n hx hb de_S_value_80 rfl (lv_at hl 2 rfl) ?_
          refine lv_iconst (v := 1) hx hb de_S_value_81 (by decide) ?_
          refine lv_icmp_ne (tgt := 95) hx hb de_S_value_82 (by decide) (fun c_14 => ?_) (fun c_14 => ?_)
          · skip
            refine lv_aload_n hx hb de_S_value_95 rfl (lv_at hl 0 rfl) ?_
            refine va_get (D := (dC, dI)) (ci := 0) (v := .ref (ad 8)) (C := "StabilitySums") (T := TB_S) (N := 10) hx hb hts ui_S hown hK hP 0 rfl rfl 7 (by decide) (hts _ uw_263) (fun _ h9 => h9) rfl de_S_value_96 ?_
            refine va_get (D := (dC, dI)) (ci := 8) (v := .long (t_13.2.2.1 8)) (C := "StabilitySums$Fraction") (T := TB_F) (N := 2) hx hb hts ui_F hown hK hP 8 rfl rfl 1 (by decide) (hts _ uw_249) (fun _ h9 => h9) rfl de_S_value_99 ?_
            have hfin : t_13 = x_vt a0 a1 t := by
              rw [et_13, et_10, et_6, x_vt, if_neg c_11]
            rw [hfin] at hP hD
            subst hQ
            have hpost : ((t_13.2.2.1 8) : Int64) = x_vv a0 a1 t := by
              rw [et_13, et_10, et_6, x_vv, if_neg c_11, if_neg c_14]
            exact W.lret (v := (t_13.2.2.1 8)) hx hb hr (fun t9 ht hW => ⟨⟨(t_13.2.2.1 8), (), rfl, hpost, by rw [ht]; exact hP, va_K.moved hW.alike hK, hD⟩, hS.F ht⟩) hS.2.2 de_S_value_102
          · skip
            refine lv_aload_n hx hb de_S_value_85 rfl (lv_at hl 0 rfl) ?_
            refine va_get (D := (dC, dI)) (ci := 0) (v := .ref (ad 8)) (C := "StabilitySums") (T := TB_S) (N := 10) hx hb hts ui_S hown hK hP 0 rfl rfl 7 (by decide) (hts _ uw_263) (fun _ h9 => h9) rfl de_S_value_86 ?_
            refine va_get (D := (dC, dI)) (ci := 8) (v := .long (t_13.2.2.1 7)) (C := "StabilitySums$Fraction") (T := TB_F) (N := 2) hx hb hts ui_F hown hK hP 8 rfl rfl 0 (by decide) (hts _ uw_247) (fun _ h9 => h9) rfl de_S_value_89 ?_
            refine lv_goto (tgt := 102) hx hb de_S_value_92 (by decide) ?_
            have hfin : t_13 = x_vt a0 a1 t := by
              rw [et_13, et_10, et_6, x_vt, if_neg c_11]
            rw [hfin] at hP hD
            subst hQ
            have hpost : ((t_13.2.2.1 7) : Int64) = x_vv a0 a1 t := by
              rw [et_13, et_10, et_6, x_vv, if_neg c_11, if_pos c_14]
            exact W.lret (v := (t_13.2.2.1 7)) hx hb hr (fun t9 ht hW => ⟨⟨(t_13.2.2.1 7), (), rfl, hpost, by rw [ht]; exact hP, va_K.moved hW.alike hK, hD⟩, hS.F ht⟩) hS.2.2 de_S_value_102
        · skip
          refine lv_aload_n hx hb de_S_value_65 rfl (lv_at hl 0 rfl) ?_
          refine va_get (D := (dC, dI)) (ci := 0) (v := .ref (ad 8)) (C := "StabilitySums") (T := TB_S) (N := 10) hx hb hts ui_S hown hK hP 0 rfl rfl 7 (by decide) (hts _ uw_263) (fun _ h9 => h9) rfl de_S_value_66 ?_
          refine cl_Vl (As := []) (rest := []) ⟨hx, hb, hml, hown, hts⟩ (mt_F_floor l dC dI ad T t_10 ) (cwV 0 hts (uw_V uw_385 uw_386 uw_387 uw_35 uw_388) rfl rfl rfl (by decide +kernel) ⟨Nat.le_of_ble_eq_true rfl, Nat.le_of_ble_eq_true rfl⟩) (va_recv hK hP (ci := 8) (q0 := 8) rfl rfl) rfl hl.1 rfl (Nat.le_of_ble_eq_true rfl) de_S_value_69 ⟨Nat.zero_le _, Nat.zero_le _⟩ hK hN hP hD hS hA (fun r_15 _ H locs hw_15 hP hD hS => ?_)
          have hw_15 : r_15 = x_flr t_10 := hw_15
          have hfin : t_10 = x_vt a0 a1 t := by
            rw [et_10, et_6, x_vt, if_pos c_11]
          rw [hfin] at hP hD
          subst hQ
          have hpost : (r_15 : Int64) = x_vv a0 a1 t := by
            rw [hw_15, et_10, et_6, x_vv, if_pos c_11]
          exact W.lret (v := r_15) hx hb hr (fun t9 ht hW => ⟨⟨r_15, (), rfl, hpost, by rw [ht]; exact hP, va_K.moved hW.alike hK, hD⟩, hS.F ht⟩) hS.2.2 de_S_value_72
      · skip
        have c_8 := bz_t hw_7 c_8
        exact absurd (by subst_vars; exact c_8) hn9
    · skip
      have c_4 := bz_f hw_3 c_4
      exact absurd (xi_07.mpr hok).2 c_4
set_option maxHeartbeats 4000000 in
set_option maxRecDepth 100000 in
theorem mt_S_value_1 (l : Launch) (hlt : l.stackTraces = false) (dC : Nat → ClassId) (dI : Nat → Nat → Nat) (ad : Nat → Nat) (T : Nat → ClassId) (t : St) (a0 : Int32) (a1 : Int32) (hI : Iv t) (hb9 : ¬ okV a0 a1) (sz : Nat) : MT l yn_S_value (.code yn_S_value cd_S_value 3 (some .long) :: UW) ({ frames := 6, cells := 1, slots := 6, locals := 92 } : Room) (va_Pc [.ref (ad 0), .int a0, .int a1] (Px (dC, dI) CLS (TY T) (wS ad T t) sz)) "java/lang/IllegalArgumentException" (fun t9 => va_P (dC, dI) CLS (wS ad T t) t9.heap ∧ va_D (va_A (wS ad T t) sz) (wS ad T t)) (va_A (wS ad T t) sz) := by
  refine MT.ofW (cc := cd_S_value) (maxL := 3) (ret := (some .long)) (by decide) rfl ?_
  intro p e s m args below meth c s₁ B hml hv
  obtain ⟨rfl, ⟨hsz, hP, hK, hD0, hN⟩, hX⟩ := hv
  have hP0 := hP
  have hx := B.exec
  have hb := B.bytes
  have hr := B.returns
  have hts : ∀ w ∈ UW, w.before _ s = true := fun w h => atoms_spec (ws := .code yn_S_value cd_S_value 3 (some .long) :: UW) B.pre w (List.mem_cons_of_mem _ h)
  have hown : s.vm.findClass "StabilitySums" = some m.cls := findClass_of_methodNamed B.named
  have hlocks := B.notSynchronized
  subst hsz
  have hD := hD0.self (sz := s.heap.size)
  generalize hAe : va_A (wS ad T t) s.heap.size = A at hD ⊢
  have hA : ∀ q : Nat, s.heap.size ≤ q → A q := fun q h => by rw [← hAe]; exact Or.inr h
  have hS : va_S A s.heap s.heap [] := va_S.rf
  have hl := lv_entry ([.ref (ad 0), .int a0, .int a1]) (n := 3) (Nat.le_of_ble_eq_true rfl)
  rw [lg_entry_eq]
  generalize (lg_sl ([.ref (ad 0), .int a0, .int a1]) ++ List.replicate (3 - (lg_sl ([.ref (ad 0), .int a0, .int a1])).length) Slot.unset).toArray = ls at hl ⊢
  have hl : lv_has ls 3 [(0, .ref (ad 0)), (1, .int a0), (2, .int a1)] := hl
  generalize hQ : MQT below s _ _ A = Q
  obtain ⟨hI0, hI1, hI2, hI3, hI4, hI5⟩ := hI
  refine lv_iload_n hx hb de_S_value_0 rfl (lv_at hl 1 rfl) ?_
  refine lv_i2l (v := a0.toInt64) hx hb de_S_value_1 rfl ?_
  refine lv_lconst (v := 0) hx hb de_S_value_2 (by decide) ?_
  refine lv_ldc2 (v := 7) hx hb hown (hts _ uw_603) de_S_value_3 ?_
  refine cl_Si (As := [.long a0.toInt64, .long 0, .long 7]) (rest := []) ⟨hx, hb, hml, hown, hts⟩ (mt_S_isWithin l dC dI ad T t a0.toInt64 0 7) (va_cwS 3 hts (uw_S uw_295 uw_296 uw_27 uw_297) rfl rfl rfl (by decide +kernel) ⟨Nat.le_of_ble_eq_true rfl, Nat.le_of_ble_eq_true rfl⟩) rfl hl.1 rfl (Nat.le_of_ble_eq_true rfl) de_S_value_6 ⟨Nat.zero_le _, Nat.zero_le _⟩ hK hN hP hD hS hA (fun r_1 _ H locs hw_1 hP hD hS => ?_)
  have hw_1 : bz r_1 (x_in a0.toInt64 0 7) := hw_1
  refine lv_if_eq (tgt := 24) hx hb de_S_value_9 (by decide) (fun c_2 => ?_) (fun c_2 => ?_)
  · skip
    have c_2 := bz_f hw_1 c_2
    subst hQ
    subst hAe
    exact th_fin (text := "no such value or side") hx hb hlt hown (by decide) hts hX uw_449 uw_40 (by decide) th_o_IAE th_u_IAE hP0 (fun _ h => h) hP hD hS hA (hl.1.trans hml.symm) de_S_value_24 de_S_value_27 de_S_value_28 de_S_value_30 de_S_value_33 (by rw [Array.isEmpty_iff.mp (B.noHandlers (hts _ uw_602))]) (Nat.le_of_ble_eq_true rfl) (Nat.le_of_ble_eq_true rfl) (Nat.le_of_ble_eq_true rfl) (Nat.le_of_ble_eq_true rfl) hlocks
  · skip
    have c_2 := bz_t hw_1 c_2
    refine lv_iload_n hx hb de_S_value_12 rfl (lv_at hl 2 rfl) ?_
    refine lv_i2l (v := a1.toInt64) hx hb de_S_value_13 rfl ?_
    refine lv_lconst (v := 0) hx hb de_S_value_14 (by decide) ?_
    refine lv_ldc2 (v := 2) hx hb hown (hts _ uw_363) de_S_value_15 ?_
    refine cl_Si (As := [.long a1.toInt64, .long 0, .long 2]) (rest := []) ⟨hx, hb, hml, hown, hts⟩ (mt_S_isWithin l dC dI ad T t a1.toInt64 0 2) (va_cwS 3 hts (uw_S uw_295 uw_296 uw_27 uw_297) rfl rfl rfl (by decide +kernel) ⟨Nat.le_of_ble_eq_true rfl, Nat.le_of_ble_eq_true rfl⟩) rfl hl.1 rfl (Nat.le_of_ble_eq_true rfl) de_S_value_18 ⟨Nat.zero_le _, Nat.zero_le _⟩ hK hN hP hD hS hA (fun r_3 _ H locs hw_3 hP hD hS => ?_)
    have hw_3 : bz r_3 (x_in a1.toInt64 0 2) := hw_3
    refine lv_if_ne (tgt := 34) hx hb de_S_value_21 (by decide) (fun c_4 => ?_) (fun c_4 => ?_)
    · skip
      have c_4 := bz_t hw_3 c_4
      exact absurd (xi_07.mp ⟨c_2, c_4⟩) hb9
    · skip
      have c_4 := bz_f hw_3 c_4
      subst hQ
      subst hAe
      exact th_fin (text := "no such value or side") hx hb hlt hown (by decide) hts hX uw_449 uw_40 (by decide) th_o_IAE th_u_IAE hP0 (fun _ h => h) hP hD hS hA (hl.1.trans hml.symm) de_S_value_24 de_S_value_27 de_S_value_28 de_S_value_30 de_S_value_33 (by rw [Array.isEmpty_iff.mp (B.noHandlers (hts _ uw_602))]) (Nat.le_of_ble_eq_true rfl) (Nat.le_of_ble_eq_true rfl) (Nat.le_of_ble_eq_true rfl) (Nat.le_of_ble_eq_true rfl) hlocks
set_option maxHeartbeats 4000000 in
set_option maxRecDepth 100000 in
theorem mt_S_value_2 (l : Launch) (hlt : l.stackTraces = false) (dC : Nat → ClassId) (dI : Nat → Nat → Nat) (ad : Nat → Nat) (T : Nat → ClassId) (t : St) (a0 : Int32) (a1 : Int32) (hI : Iv t) (hok : okV a0 a1) (hn9 : x_noans a0 (x_gath t)) (sz : Nat) : MT l yn_S_value (.code yn_S_value cd_S_value 3 (some .long) :: UW) ({ frames := 6, cells := 1, slots := 6, locals := 92 } : Room) (va_Pc [.ref (ad 0), .int a0, .int a1] (Px (dC, dI) CLS (TY T) (wS ad T t) sz)) "java/lang/ArithmeticException" (fun t9 => va_P (dC, dI) CLS (wS ad T (x_gath t)) t9.heap ∧ va_D (va_A (wS ad T t) sz) (wS ad T (x_gath t))) (va_A (wS ad T t) sz) := by
  refine MT.ofW (cc := cd_S_value) (maxL := 3) (ret := (some .long)) (by decide) rfl ?_
  intro p e s m args below meth c s₁ B hml hv
  obtain ⟨rfl, ⟨hsz, hP, hK, hD0, hN⟩, hX⟩ := hv
  have hP0 := hP
  have hx := B.exec
  have hb := B.bytes
  have hr := B.returns
  have hts : ∀ w ∈ UW, w.before _ s = true := fun w h => atoms_spec (ws := .code yn_S_value cd_S_value 3 (some .long) :: UW) B.pre w (List.mem_cons_of_mem _ h)
  have hown : s.vm.findClass "StabilitySums" = some m.cls := findClass_of_methodNamed B.named
  have hlocks := B.notSynchronized
  subst hsz
  have hD := hD0.self (sz := s.heap.size)
  generalize hAe : va_A (wS ad T t) s.heap.size = A at hD ⊢
  have hA : ∀ q : Nat, s.heap.size ≤ q → A q := fun q h => by rw [← hAe]; exact Or.inr h
  have hS : va_S A s.heap s.heap [] := va_S.rf
  have hl := lv_entry ([.ref (ad 0), .int a0, .int a1]) (n := 3) (Nat.le_of_ble_eq_true rfl)
  rw [lg_entry_eq]
  generalize (lg_sl ([.ref (ad 0), .int a0, .int a1]) ++ List.replicate (3 - (lg_sl ([.ref (ad 0), .int a0, .int a1])).length) Slot.unset).toArray = ls at hl ⊢
  have hl : lv_has ls 3 [(0, .ref (ad 0)), (1, .int a0), (2, .int a1)] := hl
  generalize hQ : MQT below s _ _ A = Q
  obtain ⟨hI0, hI1, hI2, hI3, hI4, hI5⟩ := hI
  refine lv_iload_n hx hb de_S_value_0 rfl (lv_at hl 1 rfl) ?_
  refine lv_i2l (v := a0.toInt64) hx hb de_S_value_1 rfl ?_
  refine lv_lconst (v := 0) hx hb de_S_value_2 (by decide) ?_
  refine lv_ldc2 (v := 7) hx hb hown (hts _ uw_603) de_S_value_3 ?_
  refine cl_Si (As := [.long a0.toInt64, .long 0, .long 7]) (rest := []) ⟨hx, hb, hml, hown, hts⟩ (mt_S_isWithin l dC dI ad T t a0.toInt64 0 7) (va_cwS 3 hts (uw_S uw_295 uw_296 uw_27 uw_297) rfl rfl rfl (by decide +kernel) ⟨Nat.le_of_ble_eq_true rfl, Nat.le_of_ble_eq_true rfl⟩) rfl hl.1 rfl (Nat.le_of_ble_eq_true rfl) de_S_value_6 ⟨Nat.zero_le _, Nat.zero_le _⟩ hK hN hP hD hS hA (fun r_1 _ H locs hw_1 hP hD hS => ?_)
  have hw_1 : bz r_1 (x_in a0.toInt64 0 7) := hw_1
  refine lv_if_eq (tgt := 24) hx hb de_S_value_9 (by decide) (fun c_2 => ?_) (fun c_2 => ?_)
  · skip
    have c_2 := bz_f hw_1 c_2
    exact absurd (xi_07.mpr hok).1 c_2
  · skip
    have c_2 := bz_t hw_1 c_2
    refine lv_iload_n hx hb de_S_value_12 rfl (lv_at hl 2 rfl) ?_
    refine lv_i2l (v := a1.toInt64) hx hb de_S_value_13 rfl ?_
    refine lv_lconst (v := 0) hx hb de_S_value_14 (by decide) ?_
    refine lv_ldc2 (v := 2) hx hb hown (hts _ uw_363) de_S_value_15 ?_
    refine cl_Si (As := [.long a1.toInt64, .long 0, .long 2]) (rest := []) ⟨hx, hb, hml, hown, hts⟩ (mt_S_isWithin l dC dI ad T t a1.toInt64 0 2) (va_cwS 3 hts (uw_S uw_295 uw_296 uw_27 uw_297) rfl rfl rfl (by decide +kernel) ⟨Nat.le_of_ble_eq_true rfl, Nat.le_of_ble_eq_true rfl⟩) rfl hl.1 rfl (Nat.le_of_ble_eq_true rfl) de_S_value_18 ⟨Nat.zero_le _, Nat.zero_le _⟩ hK hN hP hD hS hA (fun r_3 _ H locs hw_3 hP hD hS => ?_)
    have hw_3 : bz r_3 (x_in a1.toInt64 0 2) := hw_3
    refine lv_if_ne (tgt := 34) hx hb de_S_value_21 (by decide) (fun c_4 => ?_) (fun c_4 => ?_)
    · skip
      have c_4 := bz_t hw_3 c_4
      refine lv_aload_n hx hb de_S_value_34 rfl (lv_at hl 0 rfl) ?_
      refine cl_Vv (As := []) (rest := []) ⟨hx, hb, hml, hown, hts⟩ (mt_S_gather l dC dI ad T t (show Iv t from (by refine ⟨?_, ?_, ?_, ?_, ?_, ?_⟩ <;> omega))) (cwV 0 hts (uw_V uw_302 uw_304 uw_0 uw_27 uw_305) rfl rfl rfl (by decide +kernel) ⟨Nat.le_of_ble_eq_true rfl, Nat.le_of_ble_eq_true rfl⟩) (va_recv hK hP (ci := 0) (q0 := 0) rfl rfl) rfl hl.1 rfl (Nat.le_of_ble_eq_true rfl) de_S_value_35 ⟨Nat.zero_le _, Nat.zero_le _⟩ hK hN hP hD hS hA (fun _ H locs hw_5 hP hD hS => ?_)
      obtain ⟨t_6, et_6⟩ : ∃ z, z = x_gath t := ⟨_, rfl⟩
      have hP : va_P (dC, dI) CLS (wS ad T t_6) H := by rw [et_6]; exact hP
      have hD : va_D A (wS ad T t_6) := by rw [et_6]; exact hD
      obtain ⟨_, _, _, _, _, _⟩ : t_6.2.2.2 0 = t.2.2.2 0 ∧ t_6.2.2.2 1 = t.2.2.2 1 ∧ t_6.2.2.2 2 = t.2.2.2 2 ∧ t_6.2.2.2 3 = t.2.2.2 3 ∧ t_6.2.2.2 4 = t.2.2.2 4 ∧ t_6.2.2.2 5 = t.2.2.2 3 := by rw [et_6]; exact x_gath_6 t
      refine lv_aload_n hx hb de_S_value_38 rfl (lv_at hl 0 rfl) ?_
      refine lv_iload_n hx hb de_S_value_39 rfl (lv_at hl 1 rfl) ?_
      refine cl_Vi (As := [.int a0]) (rest := []) ⟨hx, hb, hml, hown, hts⟩ (mt_S_isWithoutAnswer l dC dI ad T t_6 a0) (cwV 1 hts (uw_V uw_368 uw_370 uw_7 uw_27 uw_371) rfl rfl rfl (by decide +kernel) ⟨Nat.le_of_ble_eq_true rfl, Nat.le_of_ble_eq_true rfl⟩) (va_recv hK hP (ci := 0) (q0 := 0) rfl rfl) rfl hl.1 rfl (Nat.le_of_ble_eq_true rfl) de_S_value_40 ⟨Nat.zero_le _, Nat.zero_le _⟩ hK hN hP hD hS hA (fun r_7 _ H locs hw_7 hP hD hS => ?_)
      have hw_7 : bz r_7 (x_noans a0 t_6) := hw_7
      refine lv_if_eq (tgt := 56) hx hb de_S_value_43 (by decide) (fun c_8 => ?_) (fun c_8 => ?_)
      · skip
        have c_8 := bz_f hw_7 c_8
        exact absurd (by subst_vars; exact hn9) c_8
      · skip
        have c_8 := bz_t hw_7 c_8
        have hfin : t_6 = x_gath t := by
          assumption
        rw [hfin] at hP hD
        subst hQ
        subst hAe
        exact th_fin (text := "the displacement is 0") hx hb hlt hown (by decide) hts hX uw_605 uw_44 (by decide) th_o_AE th_u_AE hP0 (fun _ h => h) hP hD hS hA (hl.1.trans hml.symm) de_S_value_46 de_S_value_49 de_S_value_50 de_S_value_52 de_S_value_55 (by rw [Array.isEmpty_iff.mp (B.noHandlers (hts _ uw_602))]) (Nat.le_of_ble_eq_true rfl) (Nat.le_of_ble_eq_true rfl) (Nat.le_of_ble_eq_true rfl) (Nat.le_of_ble_eq_true rfl) hlocks
    · skip
      have c_4 := bz_f hw_3 c_4
      exact absurd (xi_07.mpr hok).2 c_4
set_option maxHeartbeats 4000000 in
set_option maxRecDepth 100000 in
theorem mt_S_shear (l : Launch) (dC : Nat → ClassId) (dI : Nat → Nat → Nat) (ad : Nat → Nat) (T : Nat → ClassId) (t : St) (a0 : Int64) (hI : Iv t) (hok : x_pl a0) (sz : Nat) : Met l yn_S_shear (.code yn_S_shear cd_S_shear 3 (some .long) :: UW) ({ frames := 6, cells := 0, slots := 0, locals := 92 } : Room) (va_Pc [.ref (ad 0), .long a0] (Pw (dC, dI) CLS (TY T) (wS ad T t) sz)) (va_Ql (fun (r : Int64) (_ : Unit) => r = x_shear (x_sg a0 t) 0) (Bw (dC, dI) CLS (TY T) (fun _ : Unit => (wS ad T (x_sg a0 t))) (va_A (wS ad T t) sz)) (va_A (wS ad T t) sz)) 0 0 (va_A (wS ad T t) sz) := by
  refine Met.ofW (cc := cd_S_shear) (maxL := 3) (ret := (some .long)) (by decide) rfl ?_
  intro p e s m args below meth c s₁ B hml hv
  obtain ⟨rfl, hsz, hP, hK, hD0, hN⟩ := hv
  have hx := B.exec
  have hb := B.bytes
  have hr := B.returns
  have hts : ∀ w ∈ UW, w.before _ s = true := fun w h => atoms_spec (ws := .code yn_S_shear cd_S_shear 3 (some .long) :: UW) B.pre w (List.mem_cons_of_mem _ h)
  have hown : s.vm.findClass "StabilitySums" = some m.cls := findClass_of_methodNamed B.named
  have hlocks := B.notSynchronized
  subst hsz
  have hD := hD0.self (sz := s.heap.size)
  generalize hAe : va_A (wS ad T t) s.heap.size = A at hD ⊢
  have hA : ∀ q : Nat, s.heap.size ≤ q → A q := fun q h => by rw [← hAe]; exact Or.inr h
  have hS : va_S A s.heap s.heap [] := va_S.rf
  have hl := lv_entry ([.ref (ad 0), .long a0]) (n := 3) (Nat.le_of_ble_eq_true rfl)
  rw [lg_entry_eq]
  generalize (lg_sl ([.ref (ad 0), .long a0]) ++ List.replicate (3 - (lg_sl ([.ref (ad 0), .long a0])).length) Slot.unset).toArray = ls at hl ⊢
  have hl : lv_has ls 3 [(0, .ref (ad 0)), (1, .long a0)] := hl
  generalize hQ : MQ below _ _ s 0 0 A = Q
  obtain ⟨hI0, hI1, hI2, hI3, hI4, hI5⟩ := hI
  refine lv_lload_n hx hb de_S_shear_0 rfl (lv_at hl 1 rfl) ?_
  refine cl_Si (As := [.long a0]) (rest := []) ⟨hx, hb, hml, hown, hts⟩ (mt_S_isPlace l dC dI ad T t a0) (va_cwS 1 hts (uw_S uw_291 uw_292 uw_27 uw_293) rfl rfl rfl (by decide +kernel) ⟨Nat.le_of_ble_eq_true rfl, Nat.le_of_ble_eq_true rfl⟩) rfl hl.1 rfl (Nat.le_of_ble_eq_true rfl) de_S_shear_1 ⟨Nat.zero_le _, Nat.zero_le _⟩ hK hN hP hD hS hA (fun r_1 _ H locs hw_1 hP hD hS => ?_)
  have hw_1 : bz r_1 (x_pl a0) := hw_1
  refine lv_if_ne (tgt := 17) hx hb de_S_shear_4 (by decide) (fun c_2 => ?_) (fun c_2 => ?_)
  · skip
    have c_2 := bz_t hw_1 c_2
    refine lv_aload_n hx hb de_S_shear_17 rfl (lv_at hl 0 rfl) ?_
    refine va_get (D := (dC, dI)) (ci := 0) (v := .ref (ad 7)) (C := "StabilitySums") (T := TB_S) (N := 10) hx hb hts ui_S hown hK hP 0 rfl rfl 6 (by decide) (hts _ uw_262) (fun _ h9 => h9) rfl de_S_shear_18 ?_
    refine va_get (D := (dC, dI)) (ci := 7) (v := .ref (ad 30)) (C := "StabilitySums$Cuts") (T := TB_C) (N := 4) hx hb hts ui_C hown hK hP 7 rfl rfl 0 (by decide) (hts _ uw_225) (fun _ h9 => h9) rfl de_S_shear_21 ?_
    refine lv_iconst (v := 0) hx hb de_S_shear_24 (by decide) ?_
    refine lv_lload_n hx hb de_S_shear_25 rfl (lv_at hl 1 rfl) ?_
    refine rw_last (f := t.1 18) (j := 0) (x := a0) hx hb hK hP hD hS 30 0 rfl rfl (by decide) (by decide) de_S_shear_26 (fun H locs hP hD hS => ?_)
    have hP : va_P (dC, dI) CLS (wS ad T (sL t 18 0 a0)) H := hP
    have hD : va_D A (wS ad T (sL t 18 0 a0)) := hD
    refine lv_aload_n hx hb de_S_shear_27 rfl (lv_at hl 0 rfl) ?_
    refine cl_Vv (As := []) (rest := []) ⟨hx, hb, hml, hown, hts⟩ (mt_S_gather l dC dI ad T (sL t 18 0 a0) (show Iv t from (by refine ⟨?_, ?_, ?_, ?_, ?_, ?_⟩ <;> omega))) (cwV 0 hts (uw_V uw_302 uw_304 uw_0 uw_27 uw_305) rfl rfl rfl (by decide +kernel) ⟨Nat.le_of_ble_eq_true rfl, Nat.le_of_ble_eq_true rfl⟩) (va_recv hK hP (ci := 0) (q0 := 0) rfl rfl) rfl hl.1 rfl (Nat.le_of_ble_eq_true rfl) de_S_shear_28 ⟨Nat.zero_le _, Nat.zero_le _⟩ hK hN hP hD hS hA (fun _ H locs hw_3 hP hD hS => ?_)
    obtain ⟨t_4, et_4⟩ : ∃ z, z = x_gath (sL t 18 0 a0) := ⟨_, rfl⟩
    have hP : va_P (dC, dI) CLS (wS ad T t_4) H := by rw [et_4]; exact hP
    have hD : va_D A (wS ad T t_4) := by rw [et_4]; exact hD
    refine lv_aload_n hx hb de_S_shear_31 rfl (lv_at hl 0 rfl) ?_
    refine lv_iconst (v := 0) hx hb de_S_shear_32 (by decide) ?_
    refine cl_Vl (As := [.int 0]) (rest := []) ⟨hx, hb, hml, hown, hts⟩ (mt_S_shearAt l dC dI ad T t_4 0 (show 0 ≤ 10 from by omega)) (cwV 1 hts (uw_V uw_349 uw_351 uw_5 uw_27 uw_352) rfl rfl rfl (by decide +kernel) ⟨Nat.le_of_ble_eq_true rfl, Nat.le_of_ble_eq_true rfl⟩) (va_recv hK hP (ci := 0) (q0 := 0) rfl rfl) rfl hl.1 rfl (Nat.le_of_ble_eq_true rfl) de_S_shear_33 ⟨Nat.zero_le _, Nat.zero_le _⟩ hK hN hP hD hS hA (fun r_5 _ H locs hw_5 hP hD hS => ?_)
    have hw_5 : r_5 = x_shear t_4 0 := hw_5
    have hfin : t_4 = x_sg a0 t := by
      assumption
    rw [hfin] at hP hD
    subst hQ
    have hpost : (r_5 : Int64) = x_shear (x_sg a0 t) 0 := by
      subst_vars; rfl
    exact W.lret (v := r_5) hx hb hr (fun t9 ht hW => ⟨⟨r_5, (), rfl, hpost, by rw [ht]; exact hP, va_K.moved hW.alike hK, hD⟩, hS.F ht⟩) hS.2.2 de_S_shear_36
  · skip
    have c_2 := bz_f hw_1 c_2
    exact absurd hok c_2
set_option maxHeartbeats 4000000 in
set_option maxRecDepth 100000 in
theorem mt_S_shear_1 (l : Launch) (hlt : l.stackTraces = false) (dC : Nat → ClassId) (dI : Nat → Nat → Nat) (ad : Nat → Nat) (T : Nat → ClassId) (t : St) (a0 : Int64) (hI : Iv t) (hb9 : ¬ x_pl a0) (sz : Nat) : MT l yn_S_shear (.code yn_S_shear cd_S_shear 3 (some .long) :: UW) ({ frames := 6, cells := 1, slots := 6, locals := 92 } : Room) (va_Pc [.ref (ad 0), .long a0] (Px (dC, dI) CLS (TY T) (wS ad T t) sz)) "java/lang/IllegalArgumentException" (fun t9 => va_P (dC, dI) CLS (wS ad T t) t9.heap ∧ va_D (va_A (wS ad T t) sz) (wS ad T t)) (va_A (wS ad T t) sz) := by
  refine MT.ofW (cc := cd_S_shear) (maxL := 3) (ret := (some .long)) (by decide) rfl ?_
  intro p e s m args below meth c s₁ B hml hv
  obtain ⟨rfl, ⟨hsz, hP, hK, hD0, hN⟩, hX⟩ := hv
  have hP0 := hP
  have hx := B.exec
  have hb := B.bytes
  have hr := B.returns
  have hts : ∀ w ∈ UW, w.before _ s = true := fun w h => atoms_spec (ws := .code yn_S_shear cd_S_shear 3 (some .long) :: UW) B.pre w (List.mem_cons_of_mem _ h)
  have hown : s.vm.findClass "StabilitySums" = some m.cls := findClass_of_methodNamed B.named
  have hlocks := B.notSynchronized
  subst hsz
  have hD := hD0.self (sz := s.heap.size)
  generalize hAe : va_A (wS ad T t) s.heap.size = A at hD ⊢
  have hA : ∀ q : Nat, s.heap.size ≤ q → A q := fun q h => by rw [← hAe]; exact Or.inr h
  have hS : va_S A s.heap s.heap [] := va_S.rf
  have hl := lv_entry ([.ref (ad 0), .long a0]) (n := 3) (Nat.le_of_ble_eq_true rfl)
  rw [lg_entry_eq]
  generalize (lg_sl ([.ref (ad 0), .long a0]) ++ List.replicate (3 - (lg_sl ([.ref (ad 0), .long a0])).length) Slot.unset).toArray = ls at hl ⊢
  have hl : lv_has ls 3 [(0, .ref (ad 0)), (1, .long a0)] := hl
  generalize hQ : MQT below s _ _ A = Q
  obtain ⟨hI0, hI1, hI2, hI3, hI4, hI5⟩ := hI
  refine lv_lload_n hx hb de_S_shear_0 rfl (lv_at hl 1 rfl) ?_
  refine cl_Si (As := [.long a0]) (rest := []) ⟨hx, hb, hml, hown, hts⟩ (mt_S_isPlace l dC dI ad T t a0) (va_cwS 1 hts (uw_S uw_291 uw_292 uw_27 uw_293) rfl rfl rfl (by decide +kernel) ⟨Nat.le_of_ble_eq_true rfl, Nat.le_of_ble_eq_true rfl⟩) rfl hl.1 rfl (Nat.le_of_ble_eq_true rfl) de_S_shear_1 ⟨Nat.zero_le _, Nat.zero_le _⟩ hK hN hP hD hS hA (fun r_1 _ H locs hw_1 hP hD hS => ?_)
  have hw_1 : bz r_1 (x_pl a0) := hw_1
  refine lv_if_ne (tgt := 17) hx hb de_S_shear_4 (by decide) (fun c_2 => ?_) (fun c_2 => ?_)
  · skip
    have c_2 := bz_t hw_1 c_2
    exact absurd c_2 hb9
  · skip
    have c_2 := bz_f hw_1 c_2
    subst hQ
    subst hAe
    exact th_fin (text := "no such place") hx hb hlt hown (by decide) hts hX uw_449 uw_40 (by decide) th_o_IAE th_u_IAE hP0 (fun _ h => h) hP hD hS hA (hl.1.trans hml.symm) de_S_shear_7 de_S_shear_10 de_S_shear_11 de_S_shear_13 de_S_shear_16 (by rw [Array.isEmpty_iff.mp (B.noHandlers (hts _ uw_635))]) (Nat.le_of_ble_eq_true rfl) (Nat.le_of_ble_eq_true rfl) (Nat.le_of_ble_eq_true rfl) (Nat.le_of_ble_eq_true rfl) hlocks
set_option maxHeartbeats 4000000 in
set_option maxRecDepth 100000 in
theorem mt_S_bending (l : Launch) (dC : Nat → ClassId) (dI : Nat → Nat → Nat) (ad : Nat → Nat) (T : Nat → ClassId) (t : St) (a0 : Int64) (hI : Iv t) (hok : x_pl a0) (sz : Nat) : Met l yn_S_bending (.code yn_S_bending cd_S_bending 3 (some .long) :: UW) ({ frames := 6, cells := 0, slots := 0, locals := 92 } : Room) (va_Pc [.ref (ad 0), .long a0] (Pw (dC, dI) CLS (TY T) (wS ad T t) sz)) (va_Ql (fun (r : Int64) (_ : Unit) => r = x_bend (x_sg a0 t) 0) (Bw (dC, dI) CLS (TY T) (fun _ : Unit => (wS ad T (x_sg a0 t))) (va_A (wS ad T t) sz)) (va_A (wS ad T t) sz)) 0 0 (va_A (wS ad T t) sz) := by
  refine Met.ofW (cc := cd_S_bending) (maxL := 3) (ret := (some .long)) (by decide) rfl ?_
  intro p e s m args below meth c s₁ B hml hv
  obtain ⟨rfl, hsz, hP, hK, hD0, hN⟩ := hv
  have hx := B.exec
  have hb := B.bytes
  have hr := B.returns
  have hts : ∀ w ∈ UW, w.before _ s = true := fun w h => atoms_spec (ws := .code yn_S_bending cd_S_bending 3 (some .long) :: UW) B.pre w (List.mem_cons_of_mem _ h)
  have hown : s.vm.findClass "StabilitySums" = some m.cls := findClass_of_methodNamed B.named
  have hlocks := B.notSynchronized
  subst hsz
  have hD := hD0.self (sz := s.heap.size)
  generalize hAe : va_A (wS ad T t) s.heap.size = A at hD ⊢
  have hA : ∀ q : Nat, s.heap.size ≤ q → A q := fun q h => by rw [← hAe]; exact Or.inr h
  have hS : va_S A s.heap s.heap [] := va_S.rf
  have hl := lv_entry ([.ref (ad 0), .long a0]) (n := 3) (Nat.le_of_ble_eq_true rfl)
  rw [lg_entry_eq]
  generalize (lg_sl ([.ref (ad 0), .long a0]) ++ List.replicate (3 - (lg_sl ([.ref (ad 0), .long a0])).length) Slot.unset).toArray = ls at hl ⊢
  have hl : lv_has ls 3 [(0, .ref (ad 0)), (1, .long a0)] := hl
  generalize hQ : MQ below _ _ s 0 0 A = Q
  obtain ⟨hI0, hI1, hI2, hI3, hI4, hI5⟩ := hI
  refine lv_lload_n hx hb de_S_bending_0 rfl (lv_at hl 1 rfl) ?_
  refine cl_Si (As := [.long a0]) (rest := []) ⟨hx, hb, hml, hown, hts⟩ (mt_S_isPlace l dC dI ad T t a0) (va_cwS 1 hts (uw_S uw_291 uw_292 uw_27 uw_293) rfl rfl rfl (by decide +kernel) ⟨Nat.le_of_ble_eq_true rfl, Nat.le_of_ble_eq_true rfl⟩) rfl hl.1 rfl (Nat.le_of_ble_eq_true rfl) de_S_bending_1 ⟨Nat.zero_le _, Nat.zero_le _⟩ hK hN hP hD hS hA (fun r_1 _ H locs hw_1 hP hD hS => ?_)
  have hw_1 : bz r_1 (x_pl a0) := hw_1
  refine lv_if_ne (tgt := 17) hx hb de_S_bending_4 (by decide) (fun c_2 => ?_) (fun c_2 => ?_)
  · skip
    have c_2 := bz_t hw_1 c_2
    refine lv_aload_n hx hb de_S_bending_17 rfl (lv_at hl 0 rfl) ?_
    refine va_get (D := (dC, dI)) (ci := 0) (v := .ref (ad 7)) (C := "StabilitySums") (T := TB_S) (N := 10) hx hb hts ui_S hown hK hP 0 rfl rfl 6 (by decide) (hts _ uw_262) (fun _ h9 => h9) rfl de_S_bending_18 ?_
    refine va_get (D := (dC, dI)) (ci := 7) (v := .ref (ad 30)) (C := "StabilitySums$Cuts") (T := TB_C) (N := 4) hx hb hts ui_C hown hK hP 7 rfl rfl 0 (by decide) (hts _ uw_225) (fun _ h9 => h9) rfl de_S_bending_21 ?_
    refine lv_iconst (v := 0) hx hb de_S_bending_24 (by decide) ?_
    refine lv_lload_n hx hb de_S_bending_25 rfl (lv_at hl 1 rfl) ?_
    refine rw_last (f := t.1 18) (j := 0) (x := a0) hx hb hK hP hD hS 30 0 rfl rfl (by decide) (by decide) de_S_bending_26 (fun H locs hP hD hS => ?_)
    have hP : va_P (dC, dI) CLS (wS ad T (sL t 18 0 a0)) H := hP
    have hD : va_D A (wS ad T (sL t 18 0 a0)) := hD
    refine lv_aload_n hx hb de_S_bending_27 rfl (lv_at hl 0 rfl) ?_
    refine cl_Vv (As := []) (rest := []) ⟨hx, hb, hml, hown, hts⟩ (mt_S_gather l dC dI ad T (sL t 18 0 a0) (show Iv t from (by refine ⟨?_, ?_, ?_, ?_, ?_, ?_⟩ <;> omega))) (cwV 0 hts (uw_V uw_302 uw_304 uw_0 uw_27 uw_305) rfl rfl rfl (by decide +kernel) ⟨Nat.le_of_ble_eq_true rfl, Nat.le_of_ble_eq_true rfl⟩) (va_recv hK hP (ci := 0) (q0 := 0) rfl rfl) rfl hl.1 rfl (Nat.le_of_ble_eq_true rfl) de_S_bending_28 ⟨Nat.zero_le _, Nat.zero_le _⟩ hK hN hP hD hS hA (fun _ H locs hw_3 hP hD hS => ?_)
    obtain ⟨t_4, et_4⟩ : ∃ z, z = x_gath (sL t 18 0 a0) := ⟨_, rfl⟩
    have hP : va_P (dC, dI) CLS (wS ad T t_4) H := by rw [et_4]; exact hP
    have hD : va_D A (wS ad T t_4) := by rw [et_4]; exact hD
    refine lv_aload_n hx hb de_S_bending_31 rfl (lv_at hl 0 rfl) ?_
    refine lv_iconst (v := 0) hx hb de_S_bending_32 (by decide) ?_
    refine cl_Vl (As := [.int 0]) (rest := []) ⟨hx, hb, hml, hown, hts⟩ (mt_S_bendingAt l dC dI ad T t_4 0 (show 0 ≤ 10 from by omega)) (cwV 1 hts (uw_V uw_359 uw_361 uw_6 uw_27 uw_362) rfl rfl rfl (by decide +kernel) ⟨Nat.le_of_ble_eq_true rfl, Nat.le_of_ble_eq_true rfl⟩) (va_recv hK hP (ci := 0) (q0 := 0) rfl rfl) rfl hl.1 rfl (Nat.le_of_ble_eq_true rfl) de_S_bending_33 ⟨Nat.zero_le _, Nat.zero_le _⟩ hK hN hP hD hS hA (fun r_5 _ H locs hw_5 hP hD hS => ?_)
    have hw_5 : r_5 = x_bend t_4 0 := hw_5
    have hfin : t_4 = x_sg a0 t := by
      assumption
    rw [hfin] at hP hD
    subst hQ
    have hpost : (r_5 : Int64) = x_bend (x_sg a0 t) 0 := by
      subst_vars; rfl
    exact W.lret (v := r_5) hx hb hr (fun t9 ht hW => ⟨⟨r_5, (), rfl, hpost, by rw [ht]; exact hP, va_K.moved hW.alike hK, hD⟩, hS.F ht⟩) hS.2.2 de_S_bending_36
  · skip
    have c_2 := bz_f hw_1 c_2
    exact absurd hok c_2
set_option maxHeartbeats 4000000 in
set_option maxRecDepth 100000 in
theorem mt_S_bending_1 (l : Launch) (hlt : l.stackTraces = false) (dC : Nat → ClassId) (dI : Nat → Nat → Nat) (ad : Nat → Nat) (T : Nat → ClassId) (t : St) (a0 : Int64) (hI : Iv t) (hb9 : ¬ x_pl a0) (sz : Nat) : MT l yn_S_bending (.code yn_S_bending cd_S_bending 3 (some .long) :: UW) ({ frames := 6, cells := 1, slots := 6, locals := 92 } : Room) (va_Pc [.ref (ad 0), .long a0] (Px (dC, dI) CLS (TY T) (wS ad T t) sz)) "java/lang/IllegalArgumentException" (fun t9 => va_P (dC, dI) CLS (wS ad T t) t9.heap ∧ va_D (va_A (wS ad T t) sz) (wS ad T t)) (va_A (wS ad T t) sz) := by
  refine MT.ofW (cc := cd_S_bending) (maxL := 3) (ret := (some .long)) (by decide) rfl ?_
  intro p e s m args below meth c s₁ B hml hv
  obtain ⟨rfl, ⟨hsz, hP, hK, hD0, hN⟩, hX⟩ := hv
  have hP0 := hP
  have hx := B.exec
  have hb := B.bytes
  have hr := B.returns
  have hts : ∀ w ∈ UW, w.before _ s = true := fun w h => atoms_spec (ws := .code yn_S_bending cd_S_bending 3 (some .long) :: UW) B.pre w (List.mem_cons_of_mem _ h)
  have hown : s.vm.findClass "StabilitySums" = some m.cls := findClass_of_methodNamed B.named
  have hlocks := B.notSynchronized
  subst hsz
  have hD := hD0.self (sz := s.heap.size)
  generalize hAe : va_A (wS ad T t) s.heap.size = A at hD ⊢
  have hA : ∀ q : Nat, s.heap.size ≤ q → A q := fun q h => by rw [← hAe]; exact Or.inr h
  have hS : va_S A s.heap s.heap [] := va_S.rf
  have hl := lv_entry ([.ref (ad 0), .long a0]) (n := 3) (Nat.le_of_ble_eq_true rfl)
  rw [lg_entry_eq]
  generalize (lg_sl ([.ref (ad 0), .long a0]) ++ List.replicate (3 - (lg_sl ([.ref (ad 0), .long a0])).length) Slot.unset).toArray = ls at hl ⊢
  have hl : lv_has ls 3 [(0, .ref (ad 0)), (1, .long a0)] := hl
  generalize hQ : MQT below s _ _ A = Q
  obtain ⟨hI0, hI1, hI2, hI3, hI4, hI5⟩ := hI
  refine lv_lload_n hx hb de_S_bending_0 rfl (lv_at hl 1 rfl) ?_
  refine cl_Si (As := [.long a0]) (rest := []) ⟨hx, hb, hml, hown, hts⟩ (mt_S_isPlace l dC dI ad T t a0) (va_cwS 1 hts (uw_S uw_291 uw_292 uw_27 uw_293) rfl rfl rfl (by decide +kernel) ⟨Nat.le_of_ble_eq_true rfl, Nat.le_of_ble_eq_true rfl⟩) rfl hl.1 rfl (Nat.le_of_ble_eq_true rfl) de_S_bending_1 ⟨Nat.zero_le _, Nat.zero_le _⟩ hK hN hP hD hS hA (fun r_1 _ H locs hw_1 hP hD hS => ?_)
  have hw_1 : bz r_1 (x_pl a0) := hw_1
  refine lv_if_ne (tgt := 17) hx hb de_S_bending_4 (by decide) (fun c_2 => ?_) (fun c_2 => ?_)
  · skip
    have c_2 := bz_t hw_1 c_2
    exact absurd c_2 hb9
  · skip
    have c_2 := bz_f hw_1 c_2
    subst hQ
    subst hAe
    exact th_fin (text := "no such place") hx hb hlt hown (by decide) hts hX uw_449 uw_40 (by decide) th_o_IAE th_u_IAE hP0 (fun _ h => h) hP hD hS hA (hl.1.trans hml.symm) de_S_bending_7 de_S_bending_10 de_S_bending_11 de_S_bending_13 de_S_bending_16 (by rw [Array.isEmpty_iff.mp (B.noHandlers (hts _ uw_643))]) (Nat.le_of_ble_eq_true rfl) (Nat.le_of_ble_eq_true rfl) (Nat.le_of_ble_eq_true rfl) (Nat.le_of_ble_eq_true rfl) hlocks
set_option maxHeartbeats 4000000 in
set_option maxRecDepth 100000 in
theorem mt_S_limit (l : Launch) (dC : Nat → ClassId) (dI : Nat → Nat → Nat) (ad : Nat → Nat) (T : Nat → ClassId) (t : St) (a0 : Int32) (a1 : Int64) (a2 : Int64) (a3 : Int64) (hI : Iv t) (hok : okLx a0 a1 a2 a3) (hc : t.2.2.2 3 < 10) (sz : Nat) : Met l yn_S_limit (.code yn_S_limit cd_S_limit 9 (some .int) :: UW) ({ frames := 6, cells := 0, slots := 0, locals := 90 } : Room) (va_Pc [.ref (ad 0), .int a0, .long a1, .long a2, .long a3] (Pw (dC, dI) CLS (TY T) (wS ad T t) sz)) (va_Qi (fun (r : Int32) (_ : Unit) => r = nI (t.2.2.2 3 + 1)) (Bw (dC, dI) CLS (TY T) (fun _ : Unit => (wS ad T (sL (x_lapp a0 a2 a3 t) 18 (t.2.2.2 3 + 1) a1))) (va_A (wS ad T t) sz)) (va_A (wS ad T t) sz)) 0 0 (va_A (wS ad T t) sz) := by
  refine Met.ofW (cc := cd_S_limit) (maxL := 9) (ret := (some .int)) (by decide) rfl ?_
  intro p e s m args below meth c s₁ B hml hv
  obtain ⟨rfl, hsz, hP, hK, hD0, hN⟩ := hv
  have hx := B.exec
  have hb := B.bytes
  have hr := B.returns
  have hts : ∀ w ∈ UW, w.before _ s = true := fun w h => atoms_spec (ws := .code yn_S_limit cd_S_limit 9 (some .int) :: UW) B.pre w (List.mem_cons_of_mem _ h)
  have hown : s.vm.findClass "StabilitySums" = some m.cls := findClass_of_methodNamed B.named
  have hlocks := B.notSynchronized
  subst hsz
  have hD := hD0.self (sz := s.heap.size)
  generalize hAe : va_A (wS ad T t) s.heap.size = A at hD ⊢
  have hA : ∀ q : Nat, s.heap.size ≤ q → A q := fun q h => by rw [← hAe]; exact Or.inr h
  have hS : va_S A s.heap s.heap [] := va_S.rf
  have hl := lv_entry ([.ref (ad 0), .int a0, .long a1, .long a2, .long a3]) (n := 9) (Nat.le_of_ble_eq_true rfl)
  rw [lg_entry_eq]
  generalize (lg_sl ([.ref (ad 0), .int a0, .long a1, .long a2, .long a3]) ++ List.replicate (9 - (lg_sl ([.ref (ad 0), .int a0, .long a1, .long a2, .long a3])).length) Slot.unset).toArray = ls at hl ⊢
  have hl : lv_has ls 9 [(0, .ref (ad 0)), (1, .int a0), (2, .long a1), (4, .long a2), (6, .long a3)] := hl
  generalize hQ : MQ below _ _ s 0 0 A = Q
  obtain ⟨hI0, hI1, hI2, hI3, hI4, hI5⟩ := hI
  refine lv_iload_n hx hb de_S_limit_0 rfl (lv_at hl 1 rfl) ?_
  refine lv_i2l (v := a0.toInt64) hx hb de_S_limit_1 rfl ?_
  refine lv_lconst (v := 0) hx hb de_S_limit_2 (by decide) ?_
  refine lv_ldc2 (v := 9) hx hb hown (hts _ uw_651) de_S_limit_3 ?_
  refine cl_Si (As := [.long a0.toInt64, .long 0, .long 9]) (rest := []) ⟨hx, hb, hml, hown, hts⟩ (mt_S_isWithin l dC dI ad T t a0.toInt64 0 9) (va_cwS 3 hts (uw_S uw_295 uw_296 uw_27 uw_297) rfl rfl rfl (by decide +kernel) ⟨Nat.le_of_ble_eq_true rfl, Nat.le_of_ble_eq_true rfl⟩) rfl hl.1 rfl (Nat.le_of_ble_eq_true rfl) de_S_limit_6 ⟨Nat.zero_le _, Nat.zero_le _⟩ hK hN hP hD hS hA (fun r_1 _ H locs hw_1 hP hD hS => ?_)
  have hw_1 : bz r_1 (x_in a0.toInt64 0 9) := hw_1
  refine lv_if_eq (tgt := 45) hx hb de_S_limit_9 (by decide) (fun c_2 => ?_) (fun c_2 => ?_)
  · skip
    have c_2 := bz_f hw_1 c_2
    exact absurd hok.1 c_2
  · skip
    have c_2 := bz_t hw_1 c_2
    refine lv_lload hx hb de_S_limit_12 (lv_at hl 3 rfl) ?_
    refine lv_lload hx hb de_S_limit_14 (lv_at hl 4 rfl) ?_
    refine rw_gt (tgt := 45) hx hb de_S_limit_16 de_S_limit_17 (by decide) (fun c_3 => ?_) (fun c_3 => ?_)
    · skip
      exact absurd c_3 hok.2.1
    · skip
      refine lv_lload hx hb de_S_limit_20 (lv_at hl 3 rfl) ?_
      refine lv_ldc2 (v := (-10000000000000)) hx hb hown (hts _ uw_652) de_S_limit_22 ?_
      refine rw_lt (tgt := 45) hx hb de_S_limit_25 de_S_limit_26 (by decide) (fun c_4 => ?_) (fun c_4 => ?_)
      · skip
        exact absurd c_4 hok.2.2.1
      · skip
        refine lv_lload hx hb de_S_limit_29 (lv_at hl 4 rfl) ?_
        refine lv_ldc2 (v := 10000000000000) hx hb hown (hts _ uw_653) de_S_limit_31 ?_
        refine rw_gt (tgt := 45) hx hb de_S_limit_34 de_S_limit_35 (by decide) (fun c_5 => ?_) (fun c_5 => ?_)
        · skip
          exact absurd c_5 hok.2.2.2.1
        · skip
          refine lv_lload_n hx hb de_S_limit_38 rfl (lv_at hl 2 rfl) ?_
          refine cl_Si (As := [.long a1]) (rest := []) ⟨hx, hb, hml, hown, hts⟩ (mt_S_isPlace l dC dI ad T t a1) (va_cwS 1 hts (uw_S uw_291 uw_292 uw_27 uw_293) rfl rfl rfl (by decide +kernel) ⟨Nat.le_of_ble_eq_true rfl, Nat.le_of_ble_eq_true rfl⟩) rfl hl.1 rfl (Nat.le_of_ble_eq_true rfl) de_S_limit_39 ⟨Nat.zero_le _, Nat.zero_le _⟩ hK hN hP hD hS hA (fun r_6 _ H locs hw_6 hP hD hS => ?_)
          have hw_6 : bz r_6 (x_pl a1) := hw_6
          refine lv_if_ne (tgt := 55) hx hb de_S_limit_42 (by decide) (fun c_7 => ?_) (fun c_7 => ?_)
          · skip
            have c_7 := bz_t hw_6 c_7
            refine lv_aload_n hx hb de_S_limit_55 rfl (lv_at hl 0 rfl) ?_
            refine va_get (D := (dC, dI)) (ci := 0) (v := .ref (ad 4)) (C := "StabilitySums") (T := TB_S) (N := 10) hx hb hts ui_S hown hK hP 0 rfl rfl 3 (by decide) (hts _ uw_259) (fun _ h9 => h9) rfl de_S_limit_56 ?_
            refine va_get (D := (dC, dI)) (ci := 4) (v := .int (nI (t.2.2.2 3))) (C := "StabilitySums$Limits") (T := TB_L) (N := 4) hx hb hts ui_L hown hK hP 4 rfl rfl 3 (by decide) (hts _ uw_156) (fun _ h9 => h9) rfl de_S_limit_59 ?_
            refine lv_bipush (v := 10) hx hb de_S_limit_62 (by decide) ?_
            refine lv_icmp_lt (tgt := 77) hx hb de_S_limit_64 (by decide) (fun c_8 => ?_) (fun c_8 => ?_)
            · skip
              have c_8 : (t.2.2.2 3) < 10 := (nI_ltI (a := t.2.2.2 3) (b := 10) (by omega) (by omega)).mp c_8
              refine lv_aload_n hx hb de_S_limit_77 rfl (lv_at hl 0 rfl) ?_
              refine va_get (D := (dC, dI)) (ci := 0) (v := .ref (ad 4)) (C := "StabilitySums") (T := TB_S) (N := 10) hx hb hts ui_S hown hK hP 0 rfl rfl 3 (by decide) (hts _ uw_259) (fun _ h9 => h9) rfl de_S_limit_78 ?_
              refine lv_iload_n hx hb de_S_limit_81 rfl (lv_at hl 1 rfl) ?_
              refine lv_lload hx hb de_S_limit_82 (lv_at hl 3 rfl) ?_
              refine lv_lload hx hb de_S_limit_84 (lv_at hl 4 rfl) ?_
              refine cl_Vi (As := [.int a0, .long a2, .long a3]) (rest := []) ⟨hx, hb, hml, hown, hts⟩ (mt_L_append l dC dI ad T t a0 a2 a3 (show t.2.2.2 3 < 10 from by omega)) (cwV 3 hts (uw_V uw_656 uw_657 uw_658 uw_31 uw_659) rfl rfl rfl (by decide +kernel) ⟨Nat.le_of_ble_eq_true rfl, Nat.le_of_ble_eq_true rfl⟩) (va_recv hK hP (ci := 4) (q0 := 4) rfl rfl) rfl hl.1 rfl (Nat.le_of_ble_eq_true rfl) de_S_limit_86 ⟨Nat.zero_le _, Nat.zero_le _⟩ hK hN hP hD hS hA (fun r_9 _ H locs hw_9 hP hD hS => ?_)
              have hw_9 : r_9 = nI (t.2.2.2 3 + 1) := hw_9
              subst hw_9
              obtain ⟨t_10, et_10⟩ : ∃ z, z = x_lapp a0 a2 a3 t := ⟨_, rfl⟩
              have hP : va_P (dC, dI) CLS (wS ad T t_10) H := by rw [et_10]; exact hP
              have hD : va_D A (wS ad T t_10) := by rw [et_10]; exact hD
              refine lv_istore (lv' := [(8, .int (nI (t.2.2.2 3 + 1))), (0, .ref (ad 0)), (1, .int a0), (2, .long a1), (4, .long a2), (6, .long a3)]) hx hb de_S_limit_89 hl (by decide) rfl (fun ls hl => ?_)
              refine lv_aload_n hx hb de_S_limit_91 rfl (lv_at hl 1 rfl) ?_
              refine va_get (D := (dC, dI)) (ci := 0) (v := .ref (ad 7)) (C := "StabilitySums") (T := TB_S) (N := 10) hx hb hts ui_S hown hK hP 0 rfl rfl 6 (by decide) (hts _ uw_262) (fun _ h9 => h9) rfl de_S_limit_92 ?_
              refine va_get (D := (dC, dI)) (ci := 7) (v := .ref (ad 30)) (C := "StabilitySums$Cuts") (T := TB_C) (N := 4) hx hb hts ui_C hown hK hP 7 rfl rfl 0 (by decide) (hts _ uw_225) (fun _ h9 => h9) rfl de_S_limit_95 ?_
              refine lv_iload hx hb de_S_limit_98 (lv_at hl 0 rfl) ?_
              refine lv_lload_n hx hb de_S_limit_100 rfl (lv_at hl 3 rfl) ?_
              refine rw_last (f := t_10.1 18) (j := (t.2.2.2 3 + 1)) (x := a1) hx hb hK hP hD hS 30 0 rfl rfl (by omega) (by decide) de_S_limit_101 (fun H locs hP hD hS => ?_)
              have hP : va_P (dC, dI) CLS (wS ad T (sL t_10 18 (t.2.2.2 3 + 1) a1)) H := hP
              have hD : va_D A (wS ad T (sL t_10 18 (t.2.2.2 3 + 1) a1)) := hD
              refine lv_iload hx hb de_S_limit_102 (lv_at hl 0 rfl) ?_
              have hfin : (sL t_10 18 (t.2.2.2 3 + 1) a1) = sL (x_lapp a0 a2 a3 t) 18 (t.2.2.2 3 + 1) a1 := by
                subst_vars; rfl
              rw [hfin] at hP hD
              subst hQ
              have hpost : ((nI (t.2.2.2 3 + 1)) : Int32) = nI (t.2.2.2 3 + 1) := by
                rfl
              exact W.iret (v := (nI (t.2.2.2 3 + 1))) hx hb hr (fun t9 ht hW => ⟨⟨(nI (t.2.2.2 3 + 1)), (), rfl, hpost, by rw [ht]; exact hP, va_K.moved hW.alike hK, hD⟩, hS.F ht⟩) hS.2.2 de_S_limit_104
            · skip
              have c_8 : ¬ ((t.2.2.2 3) < 10) := fun z => c_8 ((nI_ltI (a := t.2.2.2 3) (b := 10) (by omega) (by omega)).mpr z)
              exact absurd hc c_8
          · skip
            have c_7 := bz_f hw_6 c_7
            exact absurd hok.2.2.2.2 c_7
set_option maxHeartbeats 4000000 in
set_option maxRecDepth 100000 in
theorem mt_S_limit_1 (l : Launch) (hlt : l.stackTraces = false) (dC : Nat → ClassId) (dI : Nat → Nat → Nat) (ad : Nat → Nat) (T : Nat → ClassId) (t : St) (a0 : Int32) (a1 : Int64) (a2 : Int64) (a3 : Int64) (hI : Iv t) (hb9 : ¬ okLx a0 a1 a2 a3) (sz : Nat) : MT l yn_S_limit (.code yn_S_limit cd_S_limit 9 (some .int) :: UW) ({ frames := 6, cells := 1, slots := 6, locals := 90 } : Room) (va_Pc [.ref (ad 0), .int a0, .long a1, .long a2, .long a3] (Px (dC, dI) CLS (TY T) (wS ad T t) sz)) "java/lang/IllegalArgumentException" (fun t9 => va_P (dC, dI) CLS (wS ad T t) t9.heap ∧ va_D (va_A (wS ad T t) sz) (wS ad T t)) (va_A (wS ad T t) sz) := by
  refine MT.ofW (cc := cd_S_limit) (maxL := 9) (ret := (some .int)) (by decide) rfl ?_
  intro p e s m args below meth c s₁ B hml hv
  obtain ⟨rfl, ⟨hsz, hP, hK, hD0, hN⟩, hX⟩ := hv
  have hP0 := hP
  have hx := B.exec
  have hb := B.bytes
  have hr := B.returns
  have hts : ∀ w ∈ UW, w.before _ s = true := fun w h => atoms_spec (ws := .code yn_S_limit cd_S_limit 9 (some .int) :: UW) B.pre w (List.mem_cons_of_mem _ h)
  have hown : s.vm.findClass "StabilitySums" = some m.cls := findClass_of_methodNamed B.named
  have hlocks := B.notSynchronized
  subst hsz
  have hD := hD0.self (sz := s.heap.size)
  generalize hAe : va_A (wS ad T t) s.heap.size = A at hD ⊢
  have hA : ∀ q : Nat, s.heap.size ≤ q → A q := fun q h => by rw [← hAe]; exact Or.inr h
  have hS : va_S A s.heap s.heap [] := va_S.rf
  have hl := lv_entry ([.ref (ad 0), .int a0, .long a1, .long a2, .long a3]) (n := 9) (Nat.le_of_ble_eq_true rfl)
  rw [lg_entry_eq]
  generalize (lg_sl ([.ref (ad 0), .int a0, .long a1, .long a2, .long a3]) ++ List.replicate (9 - (lg_sl ([.ref (ad 0), .int a0, .long a1, .long a2, .long a3])).length) Slot.unset).toArray = ls at hl ⊢
  have hl : lv_has ls 9 [(0, .ref (ad 0)), (1, .int a0), (2, .long a1), (4, .long a2), (6, .long a3)] := hl
  generalize hQ : MQT below s _ _ A = Q
  obtain ⟨hI0, hI1, hI2, hI3, hI4, hI5⟩ := hI
  refine lv_iload_n hx hb de_S_limit_0 rfl (lv_at hl 1 rfl) ?_
  refine lv_i2l (v := a0.toInt64) hx hb de_S_limit_1 rfl ?_
  refine lv_lconst (v := 0) hx hb de_S_limit_2 (by decide) ?_
  refine lv_ldc2 (v := 9) hx hb hown (hts _ uw_651) de_S_limit_3 ?_
  refine cl_Si (As := [.long a0.toInt64, .long 0, .long 9]) (rest := []) ⟨hx, hb, hml, hown, hts⟩ (mt_S_isWithin l dC dI ad T t a0.toInt64 0 9) (va_cwS 3 hts (uw_S uw_295 uw_296 uw_27 uw_297) rfl rfl rfl (by decide +kernel) ⟨Nat.le_of_ble_eq_true rfl, Nat.le_of_ble_eq_true rfl⟩) rfl hl.1 rfl (Nat.le_of_ble_eq_true rfl) de_S_limit_6 ⟨Nat.zero_le _, Nat.zero_le _⟩ hK hN hP hD hS hA (fun r_1 _ H locs hw_1 hP hD hS => ?_)
  have hw_1 : bz r_1 (x_in a0.toInt64 0 9) := hw_1
  refine lv_if_eq (tgt := 45) hx hb de_S_limit_9 (by decide) (fun c_2 => ?_) (fun c_2 => ?_)
  · skip
    have c_2 := bz_f hw_1 c_2
    subst hQ
    subst hAe
    exact th_fin (text := "a limit can't be so") hx hb hlt hown (by decide) hts hX uw_449 uw_40 (by decide) th_o_IAE th_u_IAE hP0 (fun _ h => h) hP hD hS hA (hl.1.trans hml.symm) de_S_limit_45 de_S_limit_48 de_S_limit_49 de_S_limit_51 de_S_limit_54 (by rw [Array.isEmpty_iff.mp (B.noHandlers (hts _ uw_650))]) (Nat.le_of_ble_eq_true rfl) (Nat.le_of_ble_eq_true rfl) (Nat.le_of_ble_eq_true rfl) (Nat.le_of_ble_eq_true rfl) hlocks
  · skip
    have c_2 := bz_t hw_1 c_2
    refine lv_lload hx hb de_S_limit_12 (lv_at hl 3 rfl) ?_
    refine lv_lload hx hb de_S_limit_14 (lv_at hl 4 rfl) ?_
    refine rw_gt (tgt := 45) hx hb de_S_limit_16 de_S_limit_17 (by decide) (fun c_3 => ?_) (fun c_3 => ?_)
    · skip
      subst hQ
      subst hAe
      exact th_fin (text := "a limit can't be so") hx hb hlt hown (by decide) hts hX uw_449 uw_40 (by decide) th_o_IAE th_u_IAE hP0 (fun _ h => h) hP hD hS hA (hl.1.trans hml.symm) de_S_limit_45 de_S_limit_48 de_S_limit_49 de_S_limit_51 de_S_limit_54 (by rw [Array.isEmpty_iff.mp (B.noHandlers (hts _ uw_650))]) (Nat.le_of_ble_eq_true rfl) (Nat.le_of_ble_eq_true rfl) (Nat.le_of_ble_eq_true rfl) (Nat.le_of_ble_eq_true rfl) hlocks
    · skip
      refine lv_lload hx hb de_S_limit_20 (lv_at hl 3 rfl) ?_
      refine lv_ldc2 (v := (-10000000000000)) hx hb hown (hts _ uw_652) de_S_limit_22 ?_
      refine rw_lt (tgt := 45) hx hb de_S_limit_25 de_S_limit_26 (by decide) (fun c_4 => ?_) (fun c_4 => ?_)
      · skip
        subst hQ
        subst hAe
        exact th_fin (text := "a limit can't be so") hx hb hlt hown (by decide) hts hX uw_449 uw_40 (by decide) th_o_IAE th_u_IAE hP0 (fun _ h => h) hP hD hS hA (hl.1.trans hml.symm) de_S_limit_45 de_S_limit_48 de_S_limit_49 de_S_limit_51 de_S_limit_54 (by rw [Array.isEmpty_iff.mp (B.noHandlers (hts _ uw_650))]) (Nat.le_of_ble_eq_true rfl) (Nat.le_of_ble_eq_true rfl) (Nat.le_of_ble_eq_true rfl) (Nat.le_of_ble_eq_true rfl) hlocks
      · skip
        refine lv_lload hx hb de_S_limit_29 (lv_at hl 4 rfl) ?_
        refine lv_ldc2 (v := 10000000000000) hx hb hown (hts _ uw_653) de_S_limit_31 ?_
        refine rw_gt (tgt := 45) hx hb de_S_limit_34 de_S_limit_35 (by decide) (fun c_5 => ?_) (fun c_5 => ?_)
        · skip
          subst hQ
          subst hAe
          exact th_fin (text := "a limit can't be so") hx hb hlt hown (by decide) hts hX uw_449 uw_40 (by decide) th_o_IAE th_u_IAE hP0 (fun _ h => h) hP hD hS hA (hl.1.trans hml.symm) de_S_limit_45 de_S_limit_48 de_S_limit_49 de_S_limit_51 de_S_limit_54 (by rw [Array.isEmpty_iff.mp (B.noHandlers (hts _ uw_650))]) (Nat.le_of_ble_eq_true rfl) (Nat.le_of_ble_eq_true rfl) (Nat.le_of_ble_eq_true rfl) (Nat.le_of_ble_eq_true rfl) hlocks
        · skip
          refine lv_lload_n hx hb de_S_limit_38 rfl (lv_at hl 2 rfl) ?_
          refine cl_Si (As := [.long a1]) (rest := []) ⟨hx, hb, hml, hown, hts⟩ (mt_S_isPlace l dC dI ad T t a1) (va_cwS 1 hts (uw_S uw_291 uw_292 uw_27 uw_293) rfl rfl rfl (by decide +kernel) ⟨Nat.le_of_ble_eq_true rfl, Nat.le_of_ble_eq_true rfl⟩) rfl hl.1 rfl (Nat.le_of_ble_eq_true rfl) de_S_limit_39 ⟨Nat.zero_le _, Nat.zero_le _⟩ hK hN hP hD hS hA (fun r_6 _ H locs hw_6 hP hD hS => ?_)
          have hw_6 : bz r_6 (x_pl a1) := hw_6
          refine lv_if_ne (tgt := 55) hx hb de_S_limit_42 (by decide) (fun c_7 => ?_) (fun c_7 => ?_)
          · skip
            have c_7 := bz_t hw_6 c_7
            exact absurd ⟨c_2, c_3, c_4, c_5, c_7⟩ hb9
          · skip
            have c_7 := bz_f hw_6 c_7
            subst hQ
            subst hAe
            exact th_fin (text := "a limit can't be so") hx hb hlt hown (by decide) hts hX uw_449 uw_40 (by decide) th_o_IAE th_u_IAE hP0 (fun _ h => h) hP hD hS hA (hl.1.trans hml.symm) de_S_limit_45 de_S_limit_48 de_S_limit_49 de_S_limit_51 de_S_limit_54 (by rw [Array.isEmpty_iff.mp (B.noHandlers (hts _ uw_650))]) (Nat.le_of_ble_eq_true rfl) (Nat.le_of_ble_eq_true rfl) (Nat.le_of_ble_eq_true rfl) (Nat.le_of_ble_eq_true rfl) hlocks
set_option maxHeartbeats 4000000 in
set_option maxRecDepth 100000 in
theorem mt_S_limit_2 (l : Launch) (hlt : l.stackTraces = false) (dC : Nat → ClassId) (dI : Nat → Nat → Nat) (ad : Nat → Nat) (T : Nat → ClassId) (t : St) (a0 : Int32) (a1 : Int64) (a2 : Int64) (a3 : Int64) (hI : Iv t) (hok : okLx a0 a1 a2 a3) (hc : ¬ t.2.2.2 3 < 10) (sz : Nat) : MT l yn_S_limit (.code yn_S_limit cd_S_limit 9 (some .int) :: UW) ({ frames := 6, cells := 1, slots := 6, locals := 90 } : Room) (va_Pc [.ref (ad 0), .int a0, .long a1, .long a2, .long a3] (Px (dC, dI) CLS (TY T) (wS ad T t) sz)) "java/lang/IllegalStateException" (fun t9 => va_P (dC, dI) CLS (wS ad T t) t9.heap ∧ va_D (va_A (wS ad T t) sz) (wS ad T t)) (va_A (wS ad T t) sz) := by
  refine MT.ofW (cc := cd_S_limit) (maxL := 9) (ret := (some .int)) (by decide) rfl ?_
  intro p e s m args below meth c s₁ B hml hv
  obtain ⟨rfl, ⟨hsz, hP, hK, hD0, hN⟩, hX⟩ := hv
  have hP0 := hP
  have hx := B.exec
  have hb := B.bytes
  have hr := B.returns
  have hts : ∀ w ∈ UW, w.before _ s = true := fun w h => atoms_spec (ws := .code yn_S_limit cd_S_limit 9 (some .int) :: UW) B.pre w (List.mem_cons_of_mem _ h)
  have hown : s.vm.findClass "StabilitySums" = some m.cls := findClass_of_methodNamed B.named
  have hlocks := B.notSynchronized
  subst hsz
  have hD := hD0.self (sz := s.heap.size)
  generalize hAe : va_A (wS ad T t) s.heap.size = A at hD ⊢
  have hA : ∀ q : Nat, s.heap.size ≤ q → A q := fun q h => by rw [← hAe]; exact Or.inr h
  have hS : va_S A s.heap s.heap [] := va_S.rf
  have hl := lv_entry ([.ref (ad 0), .int a0, .long a1, .long a2, .long a3]) (n := 9) (Nat.le_of_ble_eq_true rfl)
  rw [lg_entry_eq]
  generalize (lg_sl ([.ref (ad 0), .int a0, .long a1, .long a2, .long a3]) ++ List.replicate (9 - (lg_sl ([.ref (ad 0), .int a0, .long a1, .long a2, .long a3])).length) Slot.unset).toArray = ls at hl ⊢
  have hl : lv_has ls 9 [(0, .ref (ad 0)), (1, .int a0), (2, .long a1), (4, .long a2), (6, .long a3)] := hl
  generalize hQ : MQT below s _ _ A = Q
  obtain ⟨hI0, hI1, hI2, hI3, hI4, hI5⟩ := hI
  refine lv_iload_n hx hb de_S_limit_0 rfl (lv_at hl 1 rfl) ?_
  refine lv_i2l (v := a0.toInt64) hx hb de_S_limit_1 rfl ?_
  refine lv_lconst (v := 0) hx hb de_S_limit_2 (by decide) ?_
  refine lv_ldc2 (v := 9) hx hb hown (hts _ uw_651) de_S_limit_3 ?_
  refine cl_Si (As := [.long a0.toInt64, .long 0, .long 9]) (rest := []) ⟨hx, hb, hml, hown, hts⟩ (mt_S_isWithin l dC dI ad T t a0.toInt64 0 9) (va_cwS 3 hts (uw_S uw_295 uw_296 uw_27 uw_297) rfl rfl rfl (by decide +kernel) ⟨Nat.le_of_ble_eq_true rfl, Nat.le_of_ble_eq_true rfl⟩) rfl hl.1 rfl (Nat.le_of_ble_eq_true rfl) de_S_limit_6 ⟨Nat.zero_le _, Nat.zero_le _⟩ hK hN hP hD hS hA (fun r_1 _ H locs hw_1 hP hD hS => ?_)
  have hw_1 : bz r_1 (x_in a0.toInt64 0 9) := hw_1
  refine lv_if_eq (tgt := 45) hx hb de_S_limit_9 (by decide) (fun c_2 => ?_) (fun c_2 => ?_)
  · skip
    have c_2 := bz_f hw_1 c_2
    exact absurd hok.1 c_2
  · skip
    have c_2 := bz_t hw_1 c_2
    refine lv_lload hx hb de_S_limit_12 (lv_at hl 3 rfl) ?_
    refine lv_lload hx hb de_S_limit_14 (lv_at hl 4 rfl) ?_
    refine rw_gt (tgt := 45) hx hb de_S_limit_16 de_S_limit_17 (by decide) (fun c_3 => ?_) (fun c_3 => ?_)
    · skip
      exact absurd c_3 hok.2.1
    · skip
      refine lv_lload hx hb de_S_limit_20 (lv_at hl 3 rfl) ?_
      refine lv_ldc2 (v := (-10000000000000)) hx hb hown (hts _ uw_652) de_S_limit_22 ?_
      refine rw_lt (tgt := 45) hx hb de_S_limit_25 de_S_limit_26 (by decide) (fun c_4 => ?_) (fun c_4 => ?_)
      · skip
        exact absurd c_4 hok.2.2.1
      · skip
        refine lv_lload hx hb de_S_limit_29 (lv_at hl 4 rfl) ?_
        refine lv_ldc2 (v := 10000000000000) hx hb hown (hts _ uw_653) de_S_limit_31 ?_
        refine rw_gt (tgt := 45) hx hb de_S_limit_34 de_S_limit_35 (by decide) (fun c_5 => ?_) (fun c_5 => ?_)
        · skip
          exact absurd c_5 hok.2.2.2.1
        · skip
          refine lv_lload_n hx hb de_S_limit_38 rfl (lv_at hl 2 rfl) ?_
          refine cl_Si (As := [.long a1]) (rest := []) ⟨hx, hb, hml, hown, hts⟩ (mt_S_isPlace l dC dI ad T t a1) (va_cwS 1 hts (uw_S uw_291 uw_292 uw_27 uw_293) rfl rfl rfl (by decide +kernel) ⟨Nat.le_of_ble_eq_true rfl, Nat.le_of_ble_eq_true rfl⟩) rfl hl.1 rfl (Nat.le_of_ble_eq_true rfl) de_S_limit_39 ⟨Nat.zero_le _, Nat.zero_le _⟩ hK hN hP hD hS hA (fun r_6 _ H locs hw_6 hP hD hS => ?_)
          have hw_6 : bz r_6 (x_pl a1) := hw_6
          refine lv_if_ne (tgt := 55) hx hb de_S_limit_42 (by decide) (fun c_7 => ?_) (fun c_7 => ?_)
          · skip
            have c_7 := bz_t hw_6 c_7
            refine lv_aload_n hx hb de_S_limit_55 rfl (lv_at hl 0 rfl) ?_
            refine va_get (D := (dC, dI)) (ci := 0) (v := .ref (ad 4)) (C := "StabilitySums") (T := TB_S) (N := 10) hx hb hts ui_S hown hK hP 0 rfl rfl 3 (by decide) (hts _ uw_259) (fun _ h9 => h9) rfl de_S_limit_56 ?_
            refine va_get (D := (dC, dI)) (ci := 4) (v := .int (nI (t.2.2.2 3))) (C := "StabilitySums$Limits") (T := TB_L) (N := 4) hx hb hts ui_L hown hK hP 4 rfl rfl 3 (by decide) (hts _ uw_156) (fun _ h9 => h9) rfl de_S_limit_59 ?_
            refine lv_bipush (v := 10) hx hb de_S_limit_62 (by decide) ?_
            refine lv_icmp_lt (tgt := 77) hx hb de_S_limit_64 (by decide) (fun c_8 => ?_) (fun c_8 => ?_)
            · skip
              have c_8 : (t.2.2.2 3) < 10 := (nI_ltI (a := t.2.2.2 3) (b := 10) (by omega) (by omega)).mp c_8
              exact absurd c_8 hc
            · skip
              have c_8 : ¬ ((t.2.2.2 3) < 10) := fun z => c_8 ((nI_ltI (a := t.2.2.2 3) (b := 10) (by omega) (by omega)).mpr z)
              subst hQ
              subst hAe
              exact th_fin (text := "there are 10 limits") hx hb hlt hown (by decide) hts hX uw_518 uw_41 (by decide) th_o_ISE th_u_ISE hP0 (fun _ h => h) hP hD hS hA (hl.1.trans hml.symm) de_S_limit_67 de_S_limit_70 de_S_limit_71 de_S_limit_73 de_S_limit_76 (by rw [Array.isEmpty_iff.mp (B.noHandlers (hts _ uw_650))]) (Nat.le_of_ble_eq_true rfl) (Nat.le_of_ble_eq_true rfl) (Nat.le_of_ble_eq_true rfl) (Nat.le_of_ble_eq_true rfl) hlocks
          · skip
            have c_7 := bz_f hw_6 c_7
            exact absurd hok.2.2.2.2 c_7
set_option maxHeartbeats 4000000 in
set_option maxRecDepth 100000 in
theorem mt_S_fill (l : Launch) (dC : Nat → ClassId) (dI : Nat → Nat → Nat) (ad : Nat → Nat) (T : Nat → ClassId) (t : St) (a0 : Int32) (hI : Iv t) (hok : x_th a0 (t.2.2.2 1)) (sz : Nat) : Met l yn_S_fill (.code yn_S_fill cd_S_fill 2 (some .long) :: UW) ({ frames := 6, cells := 0, slots := 0, locals := 149 } : Room) (va_Pc [.ref (ad 0), .int a0] (Pw (dC, dI) CLS (TY T) (wS ad T t) sz)) (va_Ql (fun (r : Int64) (_ : Unit) => r = x_fv a0 t) (Bw (dC, dI) CLS (TY T) (fun _ : Unit => (wS ad T ((x_pump t).2))) (va_A (wS ad T t) sz)) (va_A (wS ad T t) sz)) 0 0 (va_A (wS ad T t) sz) := by
  refine Met.ofW (cc := cd_S_fill) (maxL := 2) (ret := (some .long)) (by decide) rfl ?_
  intro p e s m args below meth c s₁ B hml hv
  obtain ⟨rfl, hsz, hP, hK, hD0, hN⟩ := hv
  have hx := B.exec
  have hb := B.bytes
  have hr := B.returns
  have hts : ∀ w ∈ UW, w.before _ s = true := fun w h => atoms_spec (ws := .code yn_S_fill cd_S_fill 2 (some .long) :: UW) B.pre w (List.mem_cons_of_mem _ h)
  have hown : s.vm.findClass "StabilitySums" = some m.cls := findClass_of_methodNamed B.named
  have hlocks := B.notSynchronized
  subst hsz
  have hD := hD0.self (sz := s.heap.size)
  generalize hAe : va_A (wS ad T t) s.heap.size = A at hD ⊢
  have hA : ∀ q : Nat, s.heap.size ≤ q → A q := fun q h => by rw [← hAe]; exact Or.inr h
  have hS : va_S A s.heap s.heap [] := va_S.rf
  have hl := lv_entry ([.ref (ad 0), .int a0]) (n := 2) (Nat.le_of_ble_eq_true rfl)
  rw [lg_entry_eq]
  generalize (lg_sl ([.ref (ad 0), .int a0]) ++ List.replicate (2 - (lg_sl ([.ref (ad 0), .int a0])).length) Slot.unset).toArray = ls at hl ⊢
  have hl : lv_has ls 2 [(0, .ref (ad 0)), (1, .int a0)] := hl
  generalize hQ : MQ below _ _ s 0 0 A = Q
  obtain ⟨hI0, hI1, hI2, hI3, hI4, hI5⟩ := hI
  refine lv_iload_n hx hb de_S_fill_0 rfl (lv_at hl 1 rfl) ?_
  refine lv_i2l (v := a0.toInt64) hx hb de_S_fill_1 rfl ?_
  refine lv_lconst (v := 0) hx hb de_S_fill_2 (by decide) ?_
  refine lv_aload_n hx hb de_S_fill_3 rfl (lv_at hl 0 rfl) ?_
  refine va_get (D := (dC, dI)) (ci := 0) (v := .ref (ad 2)) (C := "StabilitySums") (T := TB_S) (N := 10) hx hb hts ui_S hown hK hP 0 rfl rfl 1 (by decide) (hts _ uw_257) (fun _ h9 => h9) rfl de_S_fill_4 ?_
  refine va_get (D := (dC, dI)) (ci := 2) (v := .int (nI (t.2.2.2 1))) (C := "StabilitySums$Tanks") (T := TB_T) (N := 9) hx hb hts ui_T hown hK hP 2 rfl rfl 8 (by decide) (hts _ uw_103) (fun _ h9 => h9) rfl de_S_fill_7 ?_
  refine lv_i2l (v := ((nI (t.2.2.2 1)).toInt64)) hx hb de_S_fill_10 rfl ?_
  refine lv_lconst (v := 1) hx hb de_S_fill_11 (by decide) ?_
  refine lv_lsub hx hb de_S_fill_12 ?_
  refine lv_topl (fun v_1 ev_1 => ?_)
  have ev_1 : v_1 = ((nI (t.2.2.2 1)).toInt64) - 1 := ev_1
  refine cl_Si (As := [.long a0.toInt64, .long 0, .long v_1]) (rest := []) ⟨hx, hb, hml, hown, hts⟩ (mt_S_isWithin l dC dI ad T t a0.toInt64 0 v_1) (va_cwS 3 hts (uw_S uw_295 uw_296 uw_27 uw_297) rfl rfl rfl (by decide +kernel) ⟨Nat.le_of_ble_eq_true rfl, Nat.le_of_ble_eq_true rfl⟩) rfl hl.1 rfl (Nat.le_of_ble_eq_true rfl) de_S_fill_13 ⟨Nat.zero_le _, Nat.zero_le _⟩ hK hN hP hD hS hA (fun r_2 _ H locs hw_2 hP hD hS => ?_)
  have hw_2 : bz r_2 (x_in a0.toInt64 0 v_1) := hw_2
  refine lv_if_ne (tgt := 29) hx hb de_S_fill_16 (by decide) (fun c_3 => ?_) (fun c_3 => ?_)
  · skip
    have c_3 := bz_t hw_2 c_3
    refine lv_aload_n hx hb de_S_fill_29 rfl (lv_at hl 0 rfl) ?_
    refine cl_Vl (As := []) (rest := []) ⟨hx, hb, hml, hown, hts⟩ (mt_S_findPumping l dC dI ad T t (show Iv t from (by refine ⟨?_, ?_, ?_, ?_, ?_, ?_⟩ <;> omega))) (cwV 0 hts (uw_V uw_398 uw_400 uw_9 uw_27 uw_401) rfl rfl rfl (by decide +kernel) ⟨Nat.le_of_ble_eq_true rfl, Nat.le_of_ble_eq_true rfl⟩) (va_recv hK hP (ci := 0) (q0 := 0) rfl rfl) rfl hl.1 rfl (Nat.le_of_ble_eq_true rfl) de_S_fill_30 ⟨Nat.zero_le _, Nat.zero_le _⟩ hK hN hP hD hS hA (fun r_4 _ H locs hw_4 hP hD hS => ?_)
    have hw_4 : r_4 = (x_pump t).1 := hw_4
    obtain ⟨t_5, et_5⟩ : ∃ z, z = (x_pump t).2 := ⟨_, rfl⟩
    have hP : va_P (dC, dI) CLS (wS ad T t_5) H := by rw [et_5]; exact hP
    have hD : va_D A (wS ad T t_5) := by rw [et_5]; exact hD
    refine lv_ldc2 (v := (-1)) hx hb hown (hts _ uw_402) de_S_fill_33 ?_
    refine rw_ne (tgt := 46) hx hb de_S_fill_36 de_S_fill_37 (by decide) (fun c_6 => ?_) (fun c_6 => ?_)
    · skip
      refine lv_aload_n hx hb de_S_fill_46 rfl (lv_at hl 0 rfl) ?_
      refine va_get (D := (dC, dI)) (ci := 0) (v := .ref (ad 2)) (C := "StabilitySums") (T := TB_S) (N := 10) hx hb hts ui_S hown hK hP 0 rfl rfl 1 (by decide) (hts _ uw_257) (fun _ h9 => h9) rfl de_S_fill_47 ?_
      refine va_get (D := (dC, dI)) (ci := 2) (v := .ref (ad 20)) (C := "StabilitySums$Tanks") (T := TB_T) (N := 9) hx hb hts ui_T hown hK hP 2 rfl rfl 7 (by decide) (hts _ uw_101) (fun _ h9 => h9) rfl de_S_fill_50 ?_
      refine lv_iload_n hx hb de_S_fill_53 rfl (lv_at hl 1 rfl) ?_
      have hix_54 : a0 = nI a0.toNatClampNeg := cl_eq hok.1
      refine rx_lald (f := t_5.1 11) (j := a0.toNatClampNeg) hx hb hK hP 20 0 rfl rfl (Nat.lt_of_lt_of_le (cl_lt hok.1 hok.2 (by omega)) (by omega)) (by decide) de_S_fill_54 hix_54 ?_
      have hfin : t_5 = (x_pump t).2 := by
        assumption
      rw [hfin] at hP hD
      subst hQ
      have hpost : ((t_5.1 11 a0.toNatClampNeg) : Int64) = x_fv a0 t := by
        subst_vars; unfold x_fv; rw [if_neg c_6]
      exact W.lret (v := (t_5.1 11 a0.toNatClampNeg)) hx hb hr (fun t9 ht hW => ⟨⟨(t_5.1 11 a0.toNatClampNeg), (), rfl, hpost, by rw [ht]; exact hP, va_K.moved hW.alike hK, hD⟩, hS.F ht⟩) hS.2.2 de_S_fill_55
    · skip
      refine lv_ldc2 (v := (-1)) hx hb hown (hts _ uw_402) de_S_fill_40 ?_
      refine lv_goto (tgt := 55) hx hb de_S_fill_43 (by decide) ?_
      have hfin : t_5 = (x_pump t).2 := by
        assumption
      rw [hfin] at hP hD
      subst hQ
      have hpost : ((-1) : Int64) = x_fv a0 t := by
        subst_vars; unfold x_fv; rw [if_pos c_6]
      exact W.lret (v := (-1)) hx hb hr (fun t9 ht hW => ⟨⟨(-1), (), rfl, hpost, by rw [ht]; exact hP, va_K.moved hW.alike hK, hD⟩, hS.F ht⟩) hS.2.2 de_S_fill_55
  · skip
    have c_3 := bz_f hw_2 c_3
    exact absurd ((xi_th (by assumption) (by omega)).mpr hok) c_3
set_option maxHeartbeats 4000000 in
set_option maxRecDepth 100000 in
theorem mt_S_fill_1 (l : Launch) (hlt : l.stackTraces = false) (dC : Nat → ClassId) (dI : Nat → Nat → Nat) (ad : Nat → Nat) (T : Nat → ClassId) (t : St) (a0 : Int32) (hI : Iv t) (hb9 : ¬ x_th a0 (t.2.2.2 1)) (sz : Nat) : MT l yn_S_fill (.code yn_S_fill cd_S_fill 2 (some .long) :: UW) ({ frames := 6, cells := 1, slots := 6, locals := 149 } : Room) (va_Pc [.ref (ad 0), .int a0] (Px (dC, dI) CLS (TY T) (wS ad T t) sz)) "java/lang/IndexOutOfBoundsException" (fun t9 => va_P (dC, dI) CLS (wS ad T t) t9.heap ∧ va_D (va_A (wS ad T t) sz) (wS ad T t)) (va_A (wS ad T t) sz) := by
  refine MT.ofW (cc := cd_S_fill) (maxL := 2) (ret := (some .long)) (by decide) rfl ?_
  intro p e s m args below meth c s₁ B hml hv
  obtain ⟨rfl, ⟨hsz, hP, hK, hD0, hN⟩, hX⟩ := hv
  have hP0 := hP
  have hx := B.exec
  have hb := B.bytes
  have hr := B.returns
  have hts : ∀ w ∈ UW, w.before _ s = true := fun w h => atoms_spec (ws := .code yn_S_fill cd_S_fill 2 (some .long) :: UW) B.pre w (List.mem_cons_of_mem _ h)
  have hown : s.vm.findClass "StabilitySums" = some m.cls := findClass_of_methodNamed B.named
  have hlocks := B.notSynchronized
  subst hsz
  have hD := hD0.self (sz := s.heap.size)
  generalize hAe : va_A (wS ad T t) s.heap.size = A at hD ⊢
  have hA : ∀ q : Nat, s.heap.size ≤ q → A q := fun q h => by rw [← hAe]; exact Or.inr h
  have hS : va_S A s.heap s.heap [] := va_S.rf
  have hl := lv_entry ([.ref (ad 0), .int a0]) (n := 2) (Nat.le_of_ble_eq_true rfl)
  rw [lg_entry_eq]
  generalize (lg_sl ([.ref (ad 0), .int a0]) ++ List.replicate (2 - (lg_sl ([.ref (ad 0), .int a0])).length) Slot.unset).toArray = ls at hl ⊢
  have hl : lv_has ls 2 [(0, .ref (ad 0)), (1, .int a0)] := hl
  generalize hQ : MQT below s _ _ A = Q
  obtain ⟨hI0, hI1, hI2, hI3, hI4, hI5⟩ := hI
  refine lv_iload_n hx hb de_S_fill_0 rfl (lv_at hl 1 rfl) ?_
  refine lv_i2l (v := a0.toInt64) hx hb de_S_fill_1 rfl ?_
  refine lv_lconst (v := 0) hx hb de_S_fill_2 (by decide) ?_
  refine lv_aload_n hx hb de_S_fill_3 rfl (lv_at hl 0 rfl) ?_
  refine va_get (D := (dC, dI)) (ci := 0) (v := .ref (ad 2)) (C := "StabilitySums") (T := TB_S) (N := 10) hx hb hts ui_S hown hK hP 0 rfl rfl 1 (by decide) (hts _ uw_257) (fun _ h9 => h9) rfl de_S_fill_4 ?_
  refine va_get (D := (dC, dI)) (ci := 2) (v := .int (nI (t.2.2.2 1))) (C := "StabilitySums$Tanks") (T := TB_T) (N := 9) hx hb hts ui_T hown hK hP 2 rfl rfl 8 (by decide) (hts _ uw_103) (fun _ h9 => h9) rfl de_S_fill_7 ?_
  refine lv_i2l (v := ((nI (t.2.2.2 1)).toInt64)) hx hb de_S_fill_10 rfl ?_
  refine lv_lconst (v := 1) hx hb de_S_fill_11 (by decide) ?_
  refine lv_lsub hx hb de_S_fill_12 ?_
  refine lv_topl (fun v_1 ev_1 => ?_)
  have ev_1 : v_1 = ((nI (t.2.2.2 1)).toInt64) - 1 := ev_1
  refine cl_Si (As := [.long a0.toInt64, .long 0, .long v_1]) (rest := []) ⟨hx, hb, hml, hown, hts⟩ (mt_S_isWithin l dC dI ad T t a0.toInt64 0 v_1) (va_cwS 3 hts (uw_S uw_295 uw_296 uw_27 uw_297) rfl rfl rfl (by decide +kernel) ⟨Nat.le_of_ble_eq_true rfl, Nat.le_of_ble_eq_true rfl⟩) rfl hl.1 rfl (Nat.le_of_ble_eq_true rfl) de_S_fill_13 ⟨Nat.zero_le _, Nat.zero_le _⟩ hK hN hP hD hS hA (fun r_2 _ H locs hw_2 hP hD hS => ?_)
  have hw_2 : bz r_2 (x_in a0.toInt64 0 v_1) := hw_2
  refine lv_if_ne (tgt := 29) hx hb de_S_fill_16 (by decide) (fun c_3 => ?_) (fun c_3 => ?_)
  · skip
    have c_3 := bz_t hw_2 c_3
    exact absurd ((xi_th (by assumption) (by omega)).mp c_3) hb9
  · skip
    have c_3 := bz_f hw_2 c_3
    subst hQ
    subst hAe
    exact th_fin (text := "no such tank") hx hb hlt hown (by decide) hts hX uw_561 uw_42 (by decide) th_o_IOB th_u_IOB hP0 (fun _ h => h) hP hD hS hA (hl.1.trans hml.symm) de_S_fill_19 de_S_fill_22 de_S_fill_23 de_S_fill_25 de_S_fill_28 (by rw [Array.isEmpty_iff.mp (B.noHandlers (hts _ uw_666))]) (Nat.le_of_ble_eq_true rfl) (Nat.le_of_ble_eq_true rfl) (Nat.le_of_ble_eq_true rfl) (Nat.le_of_ble_eq_true rfl) hlocks
set_option maxHeartbeats 4000000 in
set_option maxRecDepth 100000 in
theorem mt_S_plan (l : Launch) (dC : Nat → ClassId) (dI : Nat → Nat → Nat) (ad : Nat → Nat) (T : Nat → ClassId) (t : St) (a0 : Int32) (a1 : Int32) (a2 : Int64) (hI : Iv t) (hok : x_th a1 (x_pn a0 t)) (hk9 : x_pk a0 a1 a2 t) (hc : t.2.2.2 4 < 20) (sz : Nat) : Met l yn_S_plan (.code yn_S_plan cd_S_plan 10 (some .int) :: UW) ({ frames := 6, cells := 0, slots := 0, locals := 90 } : Room) (va_Pc [.ref (ad 0), .int a0, .int a1, .long a2] (Pw (dC, dI) CLS (TY T) (wS ad T t) sz)) (va_Qi (fun (r : Int32) (_ : Unit) => r = nI (t.2.2.2 4)) (Bw (dC, dI) CLS (TY T) (fun _ : Unit => (wS ad T (x_eapp a0 a1 a2 t))) (va_A (wS ad T t) sz)) (va_A (wS ad T t) sz)) 0 0 (va_A (wS ad T t) sz) := by
  refine Met.ofW (cc := cd_S_plan) (maxL := 10) (ret := (some .int)) (by decide) rfl ?_
  intro p e s m args below meth c s₁ B hml hv
  obtain ⟨rfl, hsz, hP, hK, hD0, hN⟩ := hv
  have hx := B.exec
  have hb := B.bytes
  have hr := B.returns
  have hts : ∀ w ∈ UW, w.before _ s = true := fun w h => atoms_spec (ws := .code yn_S_plan cd_S_plan 10 (some .int) :: UW) B.pre w (List.mem_cons_of_mem _ h)
  have hown : s.vm.findClass "StabilitySums" = some m.cls := findClass_of_methodNamed B.named
  have hlocks := B.notSynchronized
  subst hsz
  have hD := hD0.self (sz := s.heap.size)
  generalize hAe : va_A (wS ad T t) s.heap.size = A at hD ⊢
  have hA : ∀ q : Nat, s.heap.size ≤ q → A q := fun q h => by rw [← hAe]; exact Or.inr h
  have hS : va_S A s.heap s.heap [] := va_S.rf
  have hl := lv_entry ([.ref (ad 0), .int a0, .int a1, .long a2]) (n := 10) (Nat.le_of_ble_eq_true rfl)
  rw [lg_entry_eq]
  generalize (lg_sl ([.ref (ad 0), .int a0, .int a1, .long a2]) ++ List.replicate (10 - (lg_sl ([.ref (ad 0), .int a0, .int a1, .long a2])).length) Slot.unset).toArray = ls at hl ⊢
  have hl : lv_has ls 10 [(0, .ref (ad 0)), (1, .int a0), (2, .int a1), (3, .long a2)] := hl
  generalize hQ : MQ below _ _ s 0 0 A = Q
  obtain ⟨hI0, hI1, hI2, hI3, hI4, hI5⟩ := hI
  by_cases hz0 : a0 = 0
  · skip
    rw [x_pn, if_pos hz0] at hok
    rw [x_pk, if_pos hz0] at hk9
    refine lv_iload_n hx hb de_S_plan_0 rfl (lv_at hl 1 rfl) ?_
    refine lv_if_eq (tgt := 14) hx hb de_S_plan_1 (by decide) (fun c_1 => ?_) (fun c_1 => ?_)
    · skip
      refine lv_aload_n hx hb de_S_plan_14 rfl (lv_at hl 0 rfl) ?_
      refine va_get (D := (dC, dI)) (ci := 0) (v := .ref (ad 1)) (C := "StabilitySums") (T := TB_S) (N := 10) hx hb hts ui_S hown hK hP 0 rfl rfl 0 (by decide) (hts _ uw_256) (fun _ h9 => h9) rfl de_S_plan_15 ?_
      refine va_get (D := (dC, dI)) (ci := 1) (v := .int (nI (t.2.2.2 0))) (C := "StabilitySums$Weights") (T := TB_W) (N := 5) hx hb hts ui_W hown hK hP 1 rfl rfl 4 (by decide) (hts _ uw_68) (fun _ h9 => h9) rfl de_S_plan_18 ?_
      refine lv_istore (lv' := [(5, .int (nI (t.2.2.2 0))), (0, .ref (ad 0)), (1, .int a0), (2, .int a1), (3, .long a2)]) hx hb de_S_plan_21 hl (by decide) rfl (fun ls hl => ?_)
      refine lv_iload_n hx hb de_S_plan_23 rfl (lv_at hl 3 rfl) ?_
      refine lv_i2l (v := a1.toInt64) hx hb de_S_plan_24 rfl ?_
      refine lv_lconst (v := 0) hx hb de_S_plan_25 (by decide) ?_
      refine lv_iload hx hb de_S_plan_26 (lv_at hl 0 rfl) ?_
      refine lv_i2l (v := ((nI (t.2.2.2 0)).toInt64)) hx hb de_S_plan_28 rfl ?_
      refine lv_lconst (v := 1) hx hb de_S_plan_29 (by decide) ?_
      refine lv_lsub hx hb de_S_plan_30 ?_
      refine lv_topl (fun v_2 ev_2 => ?_)
      have ev_2 : v_2 = ((nI (t.2.2.2 0)).toInt64) - 1 := ev_2
      refine cl_Si (As := [.long a1.toInt64, .long 0, .long v_2]) (rest := []) ⟨hx, hb, hml, hown, hts⟩ (mt_S_isWithin l dC dI ad T t a1.toInt64 0 v_2) (va_cwS 3 hts (uw_S uw_295 uw_296 uw_27 uw_297) rfl rfl rfl (by decide +kernel) ⟨Nat.le_of_ble_eq_true rfl, Nat.le_of_ble_eq_true rfl⟩) rfl hl.1 rfl (Nat.le_of_ble_eq_true rfl) de_S_plan_31 ⟨Nat.zero_le _, Nat.zero_le _⟩ hK hN hP hD hS hA (fun r_3 _ H locs hw_3 hP hD hS => ?_)
      have hw_3 : bz r_3 (x_in a1.toInt64 0 v_2) := hw_3
      refine lv_if_ne (tgt := 47) hx hb de_S_plan_34 (by decide) (fun c_4 => ?_) (fun c_4 => ?_)
      · skip
        have c_4 := bz_t hw_3 c_4
        refine lv_iload_n hx hb de_S_plan_47 rfl (lv_at hl 2 rfl) ?_
        refine lv_if_eq (tgt := 55) hx hb de_S_plan_48 (by decide) (fun c_5 => ?_) (fun c_5 => ?_)
        · skip
          refine lv_ldc2 (v := (-100000)) hx hb hown (hts _ uw_444) de_S_plan_55 ?_
          refine lv_lstore (lv' := [(6, .long (-100000)), (5, .int (nI (t.2.2.2 0))), (0, .ref (ad 0)), (1, .int a0), (2, .int a1), (3, .long a2)]) hx hb de_S_plan_58 hl (by decide) rfl (fun ls hl => ?_)
          refine lv_iload_n hx hb de_S_plan_60 rfl (lv_at hl 3 rfl) ?_
          refine lv_if_eq (tgt := 76) hx hb de_S_plan_61 (by decide) (fun c_6 => ?_) (fun c_6 => ?_)
          · skip
            refine lv_ldc2 (v := 100000) hx hb hown (hts _ uw_445) de_S_plan_76 ?_
            refine lv_lstore (lv' := [(8, .long 100000), (6, .long (-100000)), (5, .int (nI (t.2.2.2 0))), (0, .ref (ad 0)), (1, .int a0), (2, .int a1), (3, .long a2)]) hx hb de_S_plan_79 hl (by decide) rfl (fun ls hl => ?_)
            refine lv_lload_n hx hb de_S_plan_81 rfl (lv_at hl 6 rfl) ?_
            refine lv_lload hx hb de_S_plan_82 (lv_at hl 1 rfl) ?_
            refine lv_lload hx hb de_S_plan_84 (lv_at hl 0 rfl) ?_
            refine cl_Si (As := [.long a2, .long (-100000), .long 100000]) (rest := []) ⟨hx, hb, hml, hown, hts⟩ (mt_S_isWithin l dC dI ad T t a2 (-100000) 100000) (va_cwS 3 hts (uw_S uw_295 uw_296 uw_27 uw_297) rfl rfl rfl (by decide +kernel) ⟨Nat.le_of_ble_eq_true rfl, Nat.le_of_ble_eq_true rfl⟩) rfl hl.1 rfl (Nat.le_of_ble_eq_true rfl) de_S_plan_86 ⟨Nat.zero_le _, Nat.zero_le _⟩ hK hN hP hD hS hA (fun r_7 _ H locs hw_7 hP hD hS => ?_)
            have hw_7 : bz r_7 (x_in a2 (-100000) 100000) := hw_7
            refine lv_if_ne (tgt := 102) hx hb de_S_plan_89 (by decide) (fun c_8 => ?_) (fun c_8 => ?_)
            · skip
              have c_8 := bz_t hw_7 c_8
              refine lv_aload_n hx hb de_S_plan_102 rfl (lv_at hl 3 rfl) ?_
              refine va_get (D := (dC, dI)) (ci := 0) (v := .ref (ad 5)) (C := "StabilitySums") (T := TB_S) (N := 10) hx hb hts ui_S hown hK hP 0 rfl rfl 4 (by decide) (hts _ uw_260) (fun _ h9 => h9) rfl de_S_plan_103 ?_
              refine va_get (D := (dC, dI)) (ci := 5) (v := .int (nI (t.2.2.2 4))) (C := "StabilitySums$Steps") (T := TB_E) (N := 4) hx hb hts ui_E hown hK hP 5 rfl rfl 3 (by decide) (hts _ uw_180) (fun _ h9 => h9) rfl de_S_plan_106 ?_
              refine lv_bipush (v := 20) hx hb de_S_plan_109 (by decide) ?_
              refine lv_icmp_lt (tgt := 124) hx hb de_S_plan_111 (by decide) (fun c_9 => ?_) (fun c_9 => ?_)
              · skip
                have c_9 : (t.2.2.2 4) < 20 := (nI_ltI (a := t.2.2.2 4) (b := 20) (by omega) (by omega)).mp c_9
                refine lv_aload_n hx hb de_S_plan_124 rfl (lv_at hl 3 rfl) ?_
                refine va_get (D := (dC, dI)) (ci := 0) (v := .ref (ad 5)) (C := "StabilitySums") (T := TB_S) (N := 10) hx hb hts ui_S hown hK hP 0 rfl rfl 4 (by decide) (hts _ uw_260) (fun _ h9 => h9) rfl de_S_plan_125 ?_
                refine lv_iload_n hx hb de_S_plan_128 rfl (lv_at hl 4 rfl) ?_
                refine lv_iload_n hx hb de_S_plan_129 rfl (lv_at hl 5 rfl) ?_
                refine lv_lload_n hx hb de_S_plan_130 rfl (lv_at hl 6 rfl) ?_
                refine cl_Vi (As := [.int a0, .int a1, .long a2]) (rest := []) ⟨hx, hb, hml, hown, hts⟩ (mt_E_append l dC dI ad T t a0 a1 a2 (show t.2.2.2 4 < 20 from by omega)) (cwV 3 hts (uw_V uw_677 uw_678 uw_679 uw_32 uw_680) rfl rfl rfl (by decide +kernel) ⟨Nat.le_of_ble_eq_true rfl, Nat.le_of_ble_eq_true rfl⟩) (va_recv hK hP (ci := 5) (q0 := 5) rfl rfl) rfl hl.1 rfl (Nat.le_of_ble_eq_true rfl) de_S_plan_131 ⟨Nat.zero_le _, Nat.zero_le _⟩ hK hN hP hD hS hA (fun r_10 _ H locs hw_10 hP hD hS => ?_)
                have hw_10 : r_10 = nI (t.2.2.2 4) := hw_10
                subst hw_10
                obtain ⟨t_11, et_11⟩ : ∃ z, z = x_eapp a0 a1 a2 t := ⟨_, rfl⟩
                have hP : va_P (dC, dI) CLS (wS ad T t_11) H := by rw [et_11]; exact hP
                have hD : va_D A (wS ad T t_11) := by rw [et_11]; exact hD
                have hfin : t_11 = x_eapp a0 a1 a2 t := by
                  assumption
                rw [hfin] at hP hD
                subst hQ
                have hpost : ((nI (t.2.2.2 4)) : Int32) = nI (t.2.2.2 4) := by
                  rfl
                exact W.iret (v := (nI (t.2.2.2 4))) hx hb hr (fun t9 ht hW => ⟨⟨(nI (t.2.2.2 4)), (), rfl, hpost, by rw [ht]; exact hP, va_K.moved hW.alike hK, hD⟩, hS.F ht⟩) hS.2.2 de_S_plan_134
              · skip
                have c_9 : ¬ ((t.2.2.2 4) < 20) := fun z => c_9 ((nI_ltI (a := t.2.2.2 4) (b := 20) (by omega) (by omega)).mpr z)
                exact absurd hc c_9
            · skip
              have c_8 := bz_f hw_7 c_8
              exact absurd hk9 c_8
          · skip
            exact absurd hz0 c_6
        · skip
          exact absurd hz0 c_5
      · skip
        have c_4 := bz_f hw_3 c_4
        exact absurd ((xi_th (by assumption) (by omega)).mpr hok) c_4
    · skip
      exact absurd hz0 c_1
  · skip
    rw [x_pn, if_neg hz0] at hok
    rw [x_pk, if_neg hz0] at hk9
    refine lv_iload_n hx hb de_S_plan_0 rfl (lv_at hl 1 rfl) ?_
    refine lv_if_eq (tgt := 14) hx hb de_S_plan_1 (by decide) (fun c_12 => ?_) (fun c_12 => ?_)
    · skip
      exact absurd c_12 hz0
    · skip
      refine lv_aload_n hx hb de_S_plan_4 rfl (lv_at hl 0 rfl) ?_
      refine va_get (D := (dC, dI)) (ci := 0) (v := .ref (ad 2)) (C := "StabilitySums") (T := TB_S) (N := 10) hx hb hts ui_S hown hK hP 0 rfl rfl 1 (by decide) (hts _ uw_257) (fun _ h9 => h9) rfl de_S_plan_5 ?_
      refine va_get (D := (dC, dI)) (ci := 2) (v := .int (nI (t.2.2.2 1))) (C := "StabilitySums$Tanks") (T := TB_T) (N := 9) hx hb hts ui_T hown hK hP 2 rfl rfl 8 (by decide) (hts _ uw_103) (fun _ h9 => h9) rfl de_S_plan_8 ?_
      refine lv_goto (tgt := 21) hx hb de_S_plan_11 (by decide) ?_
      refine lv_istore (lv' := [(5, .int (nI (t.2.2.2 1))), (0, .ref (ad 0)), (1, .int a0), (2, .int a1), (3, .long a2)]) hx hb de_S_plan_21 hl (by decide) rfl (fun ls hl => ?_)
      refine lv_iload_n hx hb de_S_plan_23 rfl (lv_at hl 3 rfl) ?_
      refine lv_i2l (v := a1.toInt64) hx hb de_S_plan_24 rfl ?_
      refine lv_lconst (v := 0) hx hb de_S_plan_25 (by decide) ?_
      refine lv_iload hx hb de_S_plan_26 (lv_at hl 0 rfl) ?_
      refine lv_i2l (v := ((nI (t.2.2.2 1)).toInt64)) hx hb de_S_plan_28 rfl ?_
      refine lv_lconst (v := 1) hx hb de_S_plan_29 (by decide) ?_
      refine lv_lsub hx hb de_S_plan_30 ?_
      refine lv_topl (fun v_13 ev_13 => ?_)
      have ev_13 : v_13 = ((nI (t.2.2.2 1)).toInt64) - 1 := ev_13
      refine cl_Si (As := [.long a1.toInt64, .long 0, .long v_13]) (rest := []) ⟨hx, hb, hml, hown, hts⟩ (mt_S_isWithin l dC dI ad T t a1.toInt64 0 v_13) (va_cwS 3 hts (uw_S uw_295 uw_296 uw_27 uw_297) rfl rfl rfl (by decide +kernel) ⟨Nat.le_of_ble_eq_true rfl, Nat.le_of_ble_eq_true rfl⟩) rfl hl.1 rfl (Nat.le_of_ble_eq_true rfl) de_S_plan_31 ⟨Nat.zero_le _, Nat.zero_le _⟩ hK hN hP hD hS hA (fun r_14 _ H locs hw_14 hP hD hS => ?_)
      have hw_14 : bz r_14 (x_in a1.toInt64 0 v_13) := hw_14
      refine lv_if_ne (tgt := 47) hx hb de_S_plan_34 (by decide) (fun c_15 => ?_) (fun c_15 => ?_)
      · skip
        have c_15 := bz_t hw_14 c_15
        refine lv_iload_n hx hb de_S_plan_47 rfl (lv_at hl 2 rfl) ?_
        refine lv_if_eq (tgt := 55) hx hb de_S_plan_48 (by decide) (fun c_16 => ?_) (fun c_16 => ?_)
        · skip
          exact absurd c_16 hz0
        · skip
          refine lv_lconst (v := 0) hx hb de_S_plan_51 (by decide) ?_
          refine lv_goto (tgt := 58) hx hb de_S_plan_52 (by decide) ?_
          refine lv_lstore (lv' := [(6, .long 0), (5, .int (nI (t.2.2.2 1))), (0, .ref (ad 0)), (1, .int a0), (2, .int a1), (3, .long a2)]) hx hb de_S_plan_58 hl (by decide) rfl (fun ls hl => ?_)
          refine lv_iload_n hx hb de_S_plan_60 rfl (lv_at hl 3 rfl) ?_
          refine lv_if_eq (tgt := 76) hx hb de_S_plan_61 (by decide) (fun c_17 => ?_) (fun c_17 => ?_)
          · skip
            exact absurd c_17 hz0
          · skip
            refine lv_aload_n hx hb de_S_plan_64 rfl (lv_at hl 2 rfl) ?_
            refine va_get (D := (dC, dI)) (ci := 0) (v := .ref (ad 2)) (C := "StabilitySums") (T := TB_S) (N := 10) hx hb hts ui_S hown hK hP 0 rfl rfl 1 (by decide) (hts _ uw_257) (fun _ h9 => h9) rfl de_S_plan_65 ?_
            refine va_get (D := (dC, dI)) (ci := 2) (v := .ref (ad 13)) (C := "StabilitySums$Tanks") (T := TB_T) (N := 9) hx hb hts ui_T hown hK hP 2 rfl rfl 0 (by decide) (hts _ uw_88) (fun _ h9 => h9) rfl de_S_plan_68 ?_
            refine lv_iload_n hx hb de_S_plan_71 rfl (lv_at hl 4 rfl) ?_
            have hix_72 : a1 = nI a1.toNatClampNeg := cl_eq hok.1
            refine rx_lald (f := t.1 4) (j := a1.toNatClampNeg) hx hb hK hP 13 0 rfl rfl (Nat.lt_of_lt_of_le (cl_lt hok.1 hok.2 (by omega)) (by omega)) (by decide) de_S_plan_72 hix_72 ?_
            refine lv_goto (tgt := 79) hx hb de_S_plan_73 (by decide) ?_
            refine lv_lstore (lv' := [(8, .long (t.1 4 a1.toNatClampNeg)), (6, .long 0), (5, .int (nI (t.2.2.2 1))), (0, .ref (ad 0)), (1, .int a0), (2, .int a1), (3, .long a2)]) hx hb de_S_plan_79 hl (by decide) rfl (fun ls hl => ?_)
            refine lv_lload_n hx hb de_S_plan_81 rfl (lv_at hl 6 rfl) ?_
            refine lv_lload hx hb de_S_plan_82 (lv_at hl 1 rfl) ?_
            refine lv_lload hx hb de_S_plan_84 (lv_at hl 0 rfl) ?_
            refine cl_Si (As := [.long a2, .long 0, .long (t.1 4 a1.toNatClampNeg)]) (rest := []) ⟨hx, hb, hml, hown, hts⟩ (mt_S_isWithin l dC dI ad T t a2 0 (t.1 4 a1.toNatClampNeg)) (va_cwS 3 hts (uw_S uw_295 uw_296 uw_27 uw_297) rfl rfl rfl (by decide +kernel) ⟨Nat.le_of_ble_eq_true rfl, Nat.le_of_ble_eq_true rfl⟩) rfl hl.1 rfl (Nat.le_of_ble_eq_true rfl) de_S_plan_86 ⟨Nat.zero_le _, Nat.zero_le _⟩ hK hN hP hD hS hA (fun r_18 _ H locs hw_18 hP hD hS => ?_)
            have hw_18 : bz r_18 (x_in a2 0 (t.1 4 a1.toNatClampNeg)) := hw_18
            refine lv_if_ne (tgt := 102) hx hb de_S_plan_89 (by decide) (fun c_19 => ?_) (fun c_19 => ?_)
            · skip
              have c_19 := bz_t hw_18 c_19
              refine lv_aload_n hx hb de_S_plan_102 rfl (lv_at hl 3 rfl) ?_
              refine va_get (D := (dC, dI)) (ci := 0) (v := .ref (ad 5)) (C := "StabilitySums") (T := TB_S) (N := 10) hx hb hts ui_S hown hK hP 0 rfl rfl 4 (by decide) (hts _ uw_260) (fun _ h9 => h9) rfl de_S_plan_103 ?_
              refine va_get (D := (dC, dI)) (ci := 5) (v := .int (nI (t.2.2.2 4))) (C := "StabilitySums$Steps") (T := TB_E) (N := 4) hx hb hts ui_E hown hK hP 5 rfl rfl 3 (by decide) (hts _ uw_180) (fun _ h9 => h9) rfl de_S_plan_106 ?_
              refine lv_bipush (v := 20) hx hb de_S_plan_109 (by decide) ?_
              refine lv_icmp_lt (tgt := 124) hx hb de_S_plan_111 (by decide) (fun c_20 => ?_) (fun c_20 => ?_)
              · skip
                have c_20 : (t.2.2.2 4) < 20 := (nI_ltI (a := t.2.2.2 4) (b := 20) (by omega) (by omega)).mp c_20
                refine lv_aload_n hx hb de_S_plan_124 rfl (lv_at hl 3 rfl) ?_
                refine va_get (D := (dC, dI)) (ci := 0) (v := .ref (ad 5)) (C := "StabilitySums") (T := TB_S) (N := 10) hx hb hts ui_S hown hK hP 0 rfl rfl 4 (by decide) (hts _ uw_260) (fun _ h9 => h9) rfl de_S_plan_125 ?_
                refine lv_iload_n hx hb de_S_plan_128 rfl (lv_at hl 4 rfl) ?_
                refine lv_iload_n hx hb de_S_plan_129 rfl (lv_at hl 5 rfl) ?_
                refine lv_lload_n hx hb de_S_plan_130 rfl (lv_at hl 6 rfl) ?_
                refine cl_Vi (As := [.int a0, .int a1, .long a2]) (rest := []) ⟨hx, hb, hml, hown, hts⟩ (mt_E_append l dC dI ad T t a0 a1 a2 (show t.2.2.2 4 < 20 from by omega)) (cwV 3 hts (uw_V uw_677 uw_678 uw_679 uw_32 uw_680) rfl rfl rfl (by decide +kernel) ⟨Nat.le_of_ble_eq_true rfl, Nat.le_of_ble_eq_true rfl⟩) (va_recv hK hP (ci := 5) (q0 := 5) rfl rfl) rfl hl.1 rfl (Nat.le_of_ble_eq_true rfl) de_S_plan_131 ⟨Nat.zero_le _, Nat.zero_le _⟩ hK hN hP hD hS hA (fun r_21 _ H locs hw_21 hP hD hS => ?_)
                have hw_21 : r_21 = nI (t.2.2.2 4) := hw_21
                subst hw_21
                obtain ⟨t_22, et_22⟩ : ∃ z, z = x_eapp a0 a1 a2 t := ⟨_, rfl⟩
                have hP : va_P (dC, dI) CLS (wS ad T t_22) H := by rw [et_22]; exact hP
                have hD : va_D A (wS ad T t_22) := by rw [et_22]; exact hD
                have hfin : t_22 = x_eapp a0 a1 a2 t := by
                  assumption
                rw [hfin] at hP hD
                subst hQ
                have hpost : ((nI (t.2.2.2 4)) : Int32) = nI (t.2.2.2 4) := by
                  rfl
                exact W.iret (v := (nI (t.2.2.2 4))) hx hb hr (fun t9 ht hW => ⟨⟨(nI (t.2.2.2 4)), (), rfl, hpost, by rw [ht]; exact hP, va_K.moved hW.alike hK, hD⟩, hS.F ht⟩) hS.2.2 de_S_plan_134
              · skip
                have c_20 : ¬ ((t.2.2.2 4) < 20) := fun z => c_20 ((nI_ltI (a := t.2.2.2 4) (b := 20) (by omega) (by omega)).mpr z)
                exact absurd hc c_20
            · skip
              have c_19 := bz_f hw_18 c_19
              exact absurd hk9 c_19
      · skip
        have c_15 := bz_f hw_14 c_15
        exact absurd ((xi_th (by assumption) (by omega)).mpr hok) c_15
set_option maxHeartbeats 4000000 in
set_option maxRecDepth 100000 in
theorem mt_S_plan_1 (l : Launch) (hlt : l.stackTraces = false) (dC : Nat → ClassId) (dI : Nat → Nat → Nat) (ad : Nat → Nat) (T : Nat → ClassId) (t : St) (a0 : Int32) (a1 : Int32) (a2 : Int64) (hI : Iv t) (hb9 : ¬ x_th a1 (x_pn a0 t)) (sz : Nat) : MT l yn_S_plan (.code yn_S_plan cd_S_plan 10 (some .int) :: UW) ({ frames := 6, cells := 1, slots := 6, locals := 90 } : Room) (va_Pc [.ref (ad 0), .int a0, .int a1, .long a2] (Px (dC, dI) CLS (TY T) (wS ad T t) sz)) "java/lang/IndexOutOfBoundsException" (fun t9 => va_P (dC, dI) CLS (wS ad T t) t9.heap ∧ va_D (va_A (wS ad T t) sz) (wS ad T t)) (va_A (wS ad T t) sz) := by
  refine MT.ofW (cc := cd_S_plan) (maxL := 10) (ret := (some .int)) (by decide) rfl ?_
  intro p e s m args below meth c s₁ B hml hv
  obtain ⟨rfl, ⟨hsz, hP, hK, hD0, hN⟩, hX⟩ := hv
  have hP0 := hP
  have hx := B.exec
  have hb := B.bytes
  have hr := B.returns
  have hts : ∀ w ∈ UW, w.before _ s = true := fun w h => atoms_spec (ws := .code yn_S_plan cd_S_plan 10 (some .int) :: UW) B.pre w (List.mem_cons_of_mem _ h)
  have hown : s.vm.findClass "StabilitySums" = some m.cls := findClass_of_methodNamed B.named
  have hlocks := B.notSynchronized
  subst hsz
  have hD := hD0.self (sz := s.heap.size)
  generalize hAe : va_A (wS ad T t) s.heap.size = A at hD ⊢
  have hA : ∀ q : Nat, s.heap.size ≤ q → A q := fun q h => by rw [← hAe]; exact Or.inr h
  have hS : va_S A s.heap s.heap [] := va_S.rf
  have hl := lv_entry ([.ref (ad 0), .int a0, .int a1, .long a2]) (n := 10) (Nat.le_of_ble_eq_true rfl)
  rw [lg_entry_eq]
  generalize (lg_sl ([.ref (ad 0), .int a0, .int a1, .long a2]) ++ List.replicate (10 - (lg_sl ([.ref (ad 0), .int a0, .int a1, .long a2])).length) Slot.unset).toArray = ls at hl ⊢
  have hl : lv_has ls 10 [(0, .ref (ad 0)), (1, .int a0), (2, .int a1), (3, .long a2)] := hl
  generalize hQ : MQT below s _ _ A = Q
  obtain ⟨hI0, hI1, hI2, hI3, hI4, hI5⟩ := hI
  by_cases hz0 : a0 = 0
  · skip
    rw [x_pn, if_pos hz0] at hb9
    refine lv_iload_n hx hb de_S_plan_0 rfl (lv_at hl 1 rfl) ?_
    refine lv_if_eq (tgt := 14) hx hb de_S_plan_1 (by decide) (fun c_1 => ?_) (fun c_1 => ?_)
    · skip
      refine lv_aload_n hx hb de_S_plan_14 rfl (lv_at hl 0 rfl) ?_
      refine va_get (D := (dC, dI)) (ci := 0) (v := .ref (ad 1)) (C := "StabilitySums") (T := TB_S) (N := 10) hx hb hts ui_S hown hK hP 0 rfl rfl 0 (by decide) (hts _ uw_256) (fun _ h9 => h9) rfl de_S_plan_15 ?_
      refine va_get (D := (dC, dI)) (ci := 1) (v := .int (nI (t.2.2.2 0))) (C := "StabilitySums$Weights") (T := TB_W) (N := 5) hx hb hts ui_W hown hK hP 1 rfl rfl 4 (by decide) (hts _ uw_68) (fun _ h9 => h9) rfl de_S_plan_18 ?_
      refine lv_istore (lv' := [(5, .int (nI (t.2.2.2 0))), (0, .ref (ad 0)), (1, .int a0), (2, .int a1), (3, .long a2)]) hx hb de_S_plan_21 hl (by decide) rfl (fun ls hl => ?_)
      refine lv_iload_n hx hb de_S_plan_23 rfl (lv_at hl 3 rfl) ?_
      refine lv_i2l (v := a1.toInt64) hx hb de_S_plan_24 rfl ?_
      refine lv_lconst (v := 0) hx hb de_S_plan_25 (by decide) ?_
      refine lv_iload hx hb de_S_plan_26 (lv_at hl 0 rfl) ?_
      refine lv_i2l (v := ((nI (t.2.2.2 0)).toInt64)) hx hb de_S_plan_28 rfl ?_
      refine lv_lconst (v := 1) hx hb de_S_plan_29 (by decide) ?_
      refine lv_lsub hx hb de_S_plan_30 ?_
      refine lv_topl (fun v_2 ev_2 => ?_)
      have ev_2 : v_2 = ((nI (t.2.2.2 0)).toInt64) - 1 := ev_2
      refine cl_Si (As := [.long a1.toInt64, .long 0, .long v_2]) (rest := []) ⟨hx, hb, hml, hown, hts⟩ (mt_S_isWithin l dC dI ad T t a1.toInt64 0 v_2) (va_cwS 3 hts (uw_S uw_295 uw_296 uw_27 uw_297) rfl rfl rfl (by decide +kernel) ⟨Nat.le_of_ble_eq_true rfl, Nat.le_of_ble_eq_true rfl⟩) rfl hl.1 rfl (Nat.le_of_ble_eq_true rfl) de_S_plan_31 ⟨Nat.zero_le _, Nat.zero_le _⟩ hK hN hP hD hS hA (fun r_3 _ H locs hw_3 hP hD hS => ?_)
      have hw_3 : bz r_3 (x_in a1.toInt64 0 v_2) := hw_3
      refine lv_if_ne (tgt := 47) hx hb de_S_plan_34 (by decide) (fun c_4 => ?_) (fun c_4 => ?_)
      · skip
        have c_4 := bz_t hw_3 c_4
        exact absurd ((xi_th (by assumption) (by omega)).mp c_4) hb9
      · skip
        have c_4 := bz_f hw_3 c_4
        subst hQ
        subst hAe
        exact th_fin (text := "no such tank or weight") hx hb hlt hown (by decide) hts hX uw_561 uw_42 (by decide) th_o_IOB th_u_IOB hP0 (fun _ h => h) hP hD hS hA (hl.1.trans hml.symm) de_S_plan_37 de_S_plan_40 de_S_plan_41 de_S_plan_43 de_S_plan_46 (by rw [Array.isEmpty_iff.mp (B.noHandlers (hts _ uw_673))]) (Nat.le_of_ble_eq_true rfl) (Nat.le_of_ble_eq_true rfl) (Nat.le_of_ble_eq_true rfl) (Nat.le_of_ble_eq_true rfl) hlocks
    · skip
      exact absurd hz0 c_1
  · skip
    rw [x_pn, if_neg hz0] at hb9
    refine lv_iload_n hx hb de_S_plan_0 rfl (lv_at hl 1 rfl) ?_
    refine lv_if_eq (tgt := 14) hx hb de_S_plan_1 (by decide) (fun c_5 => ?_) (fun c_5 => ?_)
    · skip
      exact absurd c_5 hz0
    · skip
      refine lv_aload_n hx hb de_S_plan_4 rfl (lv_at hl 0 rfl) ?_
      refine va_get (D := (dC, dI)) (ci := 0) (v := .ref (ad 2)) (C := "StabilitySums") (T := TB_S) (N := 10) hx hb hts ui_S hown hK hP 0 rfl rfl 1 (by decide) (hts _ uw_257) (fun _ h9 => h9) rfl de_S_plan_5 ?_
      refine va_get (D := (dC, dI)) (ci := 2) (v := .int (nI (t.2.2.2 1))) (C := "StabilitySums$Tanks") (T := TB_T) (N := 9) hx hb hts ui_T hown hK hP 2 rfl rfl 8 (by decide) (hts _ uw_103) (fun _ h9 => h9) rfl de_S_plan_8 ?_
      refine lv_goto (tgt := 21) hx hb de_S_plan_11 (by decide) ?_
      refine lv_istore (lv' := [(5, .int (nI (t.2.2.2 1))), (0, .ref (ad 0)), (1, .int a0), (2, .int a1), (3, .long a2)]) hx hb de_S_plan_21 hl (by decide) rfl (fun ls hl => ?_)
      refine lv_iload_n hx hb de_S_plan_23 rfl (lv_at hl 3 rfl) ?_
      refine lv_i2l (v := a1.toInt64) hx hb de_S_plan_24 rfl ?_
      refine lv_lconst (v := 0) hx hb de_S_plan_25 (by decide) ?_
      refine lv_iload hx hb de_S_plan_26 (lv_at hl 0 rfl) ?_
      refine lv_i2l (v := ((nI (t.2.2.2 1)).toInt64)) hx hb de_S_plan_28 rfl ?_
      refine lv_lconst (v := 1) hx hb de_S_plan_29 (by decide) ?_
      refine lv_lsub hx hb de_S_plan_30 ?_
      refine lv_topl (fun v_6 ev_6 => ?_)
      have ev_6 : v_6 = ((nI (t.2.2.2 1)).toInt64) - 1 := ev_6
      refine cl_Si (As := [.long a1.toInt64, .long 0, .long v_6]) (rest := []) ⟨hx, hb, hml, hown, hts⟩ (mt_S_isWithin l dC dI ad T t a1.toInt64 0 v_6) (va_cwS 3 hts (uw_S uw_295 uw_296 uw_27 uw_297) rfl rfl rfl (by decide +kernel) ⟨Nat.le_of_ble_eq_true rfl, Nat.le_of_ble_eq_true rfl⟩) rfl hl.1 rfl (Nat.le_of_ble_eq_true rfl) de_S_plan_31 ⟨Nat.zero_le _, Nat.zero_le _⟩ hK hN hP hD hS hA (fun r_7 _ H locs hw_7 hP hD hS => ?_)
      have hw_7 : bz r_7 (x_in a1.toInt64 0 v_6) := hw_7
      refine lv_if_ne (tgt := 47) hx hb de_S_plan_34 (by decide) (fun c_8 => ?_) (fun c_8 => ?_)
      · skip
        have c_8 := bz_t hw_7 c_8
        exact absurd ((xi_th (by assumption) (by omega)).mp c_8) hb9
      · skip
        have c_8 := bz_f hw_7 c_8
        subst hQ
        subst hAe
        exact th_fin (text := "no such tank or weight") hx hb hlt hown (by decide) hts hX uw_561 uw_42 (by decide) th_o_IOB th_u_IOB hP0 (fun _ h => h) hP hD hS hA (hl.1.trans hml.symm) de_S_plan_37 de_S_plan_40 de_S_plan_41 de_S_plan_43 de_S_plan_46 (by rw [Array.isEmpty_iff.mp (B.noHandlers (hts _ uw_673))]) (Nat.le_of_ble_eq_true rfl) (Nat.le_of_ble_eq_true rfl) (Nat.le_of_ble_eq_true rfl) (Nat.le_of_ble_eq_true rfl) hlocks
set_option maxHeartbeats 4000000 in
set_option maxRecDepth 100000 in
theorem mt_S_plan_2 (l : Launch) (hlt : l.stackTraces = false) (dC : Nat → ClassId) (dI : Nat → Nat → Nat) (ad : Nat → Nat) (T : Nat → ClassId) (t : St) (a0 : Int32) (a1 : Int32) (a2 : Int64) (hI : Iv t) (hok : x_th a1 (x_pn a0 t)) (hk9 : ¬ x_pk a0 a1 a2 t) (sz : Nat) : MT l yn_S_plan (.code yn_S_plan cd_S_plan 10 (some .int) :: UW) ({ frames := 6, cells := 1, slots := 6, locals := 90 } : Room) (va_Pc [.ref (ad 0), .int a0, .int a1, .long a2] (Px (dC, dI) CLS (TY T) (wS ad T t) sz)) "java/lang/IllegalArgumentException" (fun t9 => va_P (dC, dI) CLS (wS ad T t) t9.heap ∧ va_D (va_A (wS ad T t) sz) (wS ad T t)) (va_A (wS ad T t) sz) := by
  refine MT.ofW (cc := cd_S_plan) (maxL := 10) (ret := (some .int)) (by decide) rfl ?_
  intro p e s m args below meth c s₁ B hml hv
  obtain ⟨rfl, ⟨hsz, hP, hK, hD0, hN⟩, hX⟩ := hv
  have hP0 := hP
  have hx := B.exec
  have hb := B.bytes
  have hr := B.returns
  have hts : ∀ w ∈ UW, w.before _ s = true := fun w h => atoms_spec (ws := .code yn_S_plan cd_S_plan 10 (some .int) :: UW) B.pre w (List.mem_cons_of_mem _ h)
  have hown : s.vm.findClass "StabilitySums" = some m.cls := findClass_of_methodNamed B.named
  have hlocks := B.notSynchronized
  subst hsz
  have hD := hD0.self (sz := s.heap.size)
  generalize hAe : va_A (wS ad T t) s.heap.size = A at hD ⊢
  have hA : ∀ q : Nat, s.heap.size ≤ q → A q := fun q h => by rw [← hAe]; exact Or.inr h
  have hS : va_S A s.heap s.heap [] := va_S.rf
  have hl := lv_entry ([.ref (ad 0), .int a0, .int a1, .long a2]) (n := 10) (Nat.le_of_ble_eq_true rfl)
  rw [lg_entry_eq]
  generalize (lg_sl ([.ref (ad 0), .int a0, .int a1, .long a2]) ++ List.replicate (10 - (lg_sl ([.ref (ad 0), .int a0, .int a1, .long a2])).length) Slot.unset).toArray = ls at hl ⊢
  have hl : lv_has ls 10 [(0, .ref (ad 0)), (1, .int a0), (2, .int a1), (3, .long a2)] := hl
  generalize hQ : MQT below s _ _ A = Q
  obtain ⟨hI0, hI1, hI2, hI3, hI4, hI5⟩ := hI
  by_cases hz0 : a0 = 0
  · skip
    rw [x_pn, if_pos hz0] at hok
    rw [x_pk, if_pos hz0] at hk9
    refine lv_iload_n hx hb de_S_plan_0 rfl (lv_at hl 1 rfl) ?_
    refine lv_if_eq (tgt := 14) hx hb de_S_plan_1 (by decide) (fun c_1 => ?_) (fun c_1 => ?_)
    · skip
      refine lv_aload_n hx hb de_S_plan_14 rfl (lv_at hl 0 rfl) ?_
      refine va_get (D := (dC, dI)) (ci := 0) (v := .ref (ad 1)) (C := "StabilitySums") (T := TB_S) (N := 10) hx hb hts ui_S hown hK hP 0 rfl rfl 0 (by decide) (hts _ uw_256) (fun _ h9 => h9) rfl de_S_plan_15 ?_
      refine va_get (D := (dC, dI)) (ci := 1) (v := .int (nI (t.2.2.2 0))) (C := "StabilitySums$Weights") (T := TB_W) (N := 5) hx hb hts ui_W hown hK hP 1 rfl rfl 4 (by decide) (hts _ uw_68) (fun _ h9 => h9) rfl de_S_plan_18 ?_
      refine lv_istore (lv' := [(5, .int (nI (t.2.2.2 0))), (0, .ref (ad 0)), (1, .int a0), (2, .int a1), (3, .long a2)]) hx hb de_S_plan_21 hl (by decide) rfl (fun ls hl => ?_)
      refine lv_iload_n hx hb de_S_plan_23 rfl (lv_at hl 3 rfl) ?_
      refine lv_i2l (v := a1.toInt64) hx hb de_S_plan_24 rfl ?_
      refine lv_lconst (v := 0) hx hb de_S_plan_25 (by decide) ?_
      refine lv_iload hx hb de_S_plan_26 (lv_at hl 0 rfl) ?_
      refine lv_i2l (v := ((nI (t.2.2.2 0)).toInt64)) hx hb de_S_plan_28 rfl ?_
      refine lv_lconst (v := 1) hx hb de_S_plan_29 (by decide) ?_
      refine lv_lsub hx hb de_S_plan_30 ?_
      refine lv_topl (fun v_2 ev_2 => ?_)
      have ev_2 : v_2 = ((nI (t.2.2.2 0)).toInt64) - 1 := ev_2
      refine cl_Si (As := [.long a1.toInt64, .long 0, .long v_2]) (rest := []) ⟨hx, hb, hml, hown, hts⟩ (mt_S_isWithin l dC dI ad T t a1.toInt64 0 v_2) (va_cwS 3 hts (uw_S uw_295 uw_296 uw_27 uw_297) rfl rfl rfl (by decide +kernel) ⟨Nat.le_of_ble_eq_true rfl, Nat.le_of_ble_eq_true rfl⟩) rfl hl.1 rfl (Nat.le_of_ble_eq_true rfl) de_S_plan_31 ⟨Nat.zero_le _, Nat.zero_le _⟩ hK hN hP hD hS hA (fun r_3 _ H locs hw_3 hP hD hS => ?_)
      have hw_3 : bz r_3 (x_in a1.toInt64 0 v_2) := hw_3
      refine lv_if_ne (tgt := 47) hx hb de_S_plan_34 (by decide) (fun c_4 => ?_) (fun c_4 => ?_)
      · skip
        have c_4 := bz_t hw_3 c_4
        refine lv_iload_n hx hb de_S_plan_47 rfl (lv_at hl 2 rfl) ?_
        refine lv_if_eq (tgt := 55) hx hb de_S_plan_48 (by decide) (fun c_5 => ?_) (fun c_5 => ?_)
        · skip
          refine lv_ldc2 (v := (-100000)) hx hb hown (hts _ uw_444) de_S_plan_55 ?_
          refine lv_lstore (lv' := [(6, .long (-100000)), (5, .int (nI (t.2.2.2 0))), (0, .ref (ad 0)), (1, .int a0), (2, .int a1), (3, .long a2)]) hx hb de_S_plan_58 hl (by decide) rfl (fun ls hl => ?_)
          refine lv_iload_n hx hb de_S_plan_60 rfl (lv_at hl 3 rfl) ?_
          refine lv_if_eq (tgt := 76) hx hb de_S_plan_61 (by decide) (fun c_6 => ?_) (fun c_6 => ?_)
          · skip
            refine lv_ldc2 (v := 100000) hx hb hown (hts _ uw_445) de_S_plan_76 ?_
            refine lv_lstore (lv' := [(8, .long 100000), (6, .long (-100000)), (5, .int (nI (t.2.2.2 0))), (0, .ref (ad 0)), (1, .int a0), (2, .int a1), (3, .long a2)]) hx hb de_S_plan_79 hl (by decide) rfl (fun ls hl => ?_)
            refine lv_lload_n hx hb de_S_plan_81 rfl (lv_at hl 6 rfl) ?_
            refine lv_lload hx hb de_S_plan_82 (lv_at hl 1 rfl) ?_
            refine lv_lload hx hb de_S_plan_84 (lv_at hl 0 rfl) ?_
            refine cl_Si (As := [.long a2, .long (-100000), .long 100000]) (rest := []) ⟨hx, hb, hml, hown, hts⟩ (mt_S_isWithin l dC dI ad T t a2 (-100000) 100000) (va_cwS 3 hts (uw_S uw_295 uw_296 uw_27 uw_297) rfl rfl rfl (by decide +kernel) ⟨Nat.le_of_ble_eq_true rfl, Nat.le_of_ble_eq_true rfl⟩) rfl hl.1 rfl (Nat.le_of_ble_eq_true rfl) de_S_plan_86 ⟨Nat.zero_le _, Nat.zero_le _⟩ hK hN hP hD hS hA (fun r_7 _ H locs hw_7 hP hD hS => ?_)
            have hw_7 : bz r_7 (x_in a2 (-100000) 100000) := hw_7
            refine lv_if_ne (tgt := 102) hx hb de_S_plan_89 (by decide) (fun c_8 => ?_) (fun c_8 => ?_)
            · skip
              have c_8 := bz_t hw_7 c_8
              exact absurd c_8 hk9
            · skip
              have c_8 := bz_f hw_7 c_8
              subst hQ
              subst hAe
              exact th_fin (text := "a step can't be so") hx hb hlt hown (by decide) hts hX uw_449 uw_40 (by decide) th_o_IAE th_u_IAE hP0 (fun _ h => h) hP hD hS hA (hl.1.trans hml.symm) de_S_plan_92 de_S_plan_95 de_S_plan_96 de_S_plan_98 de_S_plan_101 (by rw [Array.isEmpty_iff.mp (B.noHandlers (hts _ uw_673))]) (Nat.le_of_ble_eq_true rfl) (Nat.le_of_ble_eq_true rfl) (Nat.le_of_ble_eq_true rfl) (Nat.le_of_ble_eq_true rfl) hlocks
          · skip
            exact absurd hz0 c_6
        · skip
          exact absurd hz0 c_5
      · skip
        have c_4 := bz_f hw_3 c_4
        exact absurd ((xi_th (by assumption) (by omega)).mpr hok) c_4
    · skip
      exact absurd hz0 c_1
  · skip
    rw [x_pn, if_neg hz0] at hok
    rw [x_pk, if_neg hz0] at hk9
    refine lv_iload_n hx hb de_S_plan_0 rfl (lv_at hl 1 rfl) ?_
    refine lv_if_eq (tgt := 14) hx hb de_S_plan_1 (by decide) (fun c_9 => ?_) (fun c_9 => ?_)
    · skip
      exact absurd c_9 hz0
    · skip
      refine lv_aload_n hx hb de_S_plan_4 rfl (lv_at hl 0 rfl) ?_
      refine va_get (D := (dC, dI)) (ci := 0) (v := .ref (ad 2)) (C := "StabilitySums") (T := TB_S) (N := 10) hx hb hts ui_S hown hK hP 0 rfl rfl 1 (by decide) (hts _ uw_257) (fun _ h9 => h9) rfl de_S_plan_5 ?_
      refine va_get (D := (dC, dI)) (ci := 2) (v := .int (nI (t.2.2.2 1))) (C := "StabilitySums$Tanks") (T := TB_T) (N := 9) hx hb hts ui_T hown hK hP 2 rfl rfl 8 (by decide) (hts _ uw_103) (fun _ h9 => h9) rfl de_S_plan_8 ?_
      refine lv_goto (tgt := 21) hx hb de_S_plan_11 (by decide) ?_
      refine lv_istore (lv' := [(5, .int (nI (t.2.2.2 1))), (0, .ref (ad 0)), (1, .int a0), (2, .int a1), (3, .long a2)]) hx hb de_S_plan_21 hl (by decide) rfl (fun ls hl => ?_)
      refine lv_iload_n hx hb de_S_plan_23 rfl (lv_at hl 3 rfl) ?_
      refine lv_i2l (v := a1.toInt64) hx hb de_S_plan_24 rfl ?_
      refine lv_lconst (v := 0) hx hb de_S_plan_25 (by decide) ?_
      refine lv_iload hx hb de_S_plan_26 (lv_at hl 0 rfl) ?_
      refine lv_i2l (v := ((nI (t.2.2.2 1)).toInt64)) hx hb de_S_plan_28 rfl ?_
      refine lv_lconst (v := 1) hx hb de_S_plan_29 (by decide) ?_
      refine lv_lsub hx hb de_S_plan_30 ?_
      refine lv_topl (fun v_10 ev_10 => ?_)
      have ev_10 : v_10 = ((nI (t.2.2.2 1)).toInt64) - 1 := ev_10
      refine cl_Si (As := [.long a1.toInt64, .long 0, .long v_10]) (rest := []) ⟨hx, hb, hml, hown, hts⟩ (mt_S_isWithin l dC dI ad T t a1.toInt64 0 v_10) (va_cwS 3 hts (uw_S uw_295 uw_296 uw_27 uw_297) rfl rfl rfl (by decide +kernel) ⟨Nat.le_of_ble_eq_true rfl, Nat.le_of_ble_eq_true rfl⟩) rfl hl.1 rfl (Nat.le_of_ble_eq_true rfl) de_S_plan_31 ⟨Nat.zero_le _, Nat.zero_le _⟩ hK hN hP hD hS hA (fun r_11 _ H locs hw_11 hP hD hS => ?_)
      have hw_11 : bz r_11 (x_in a1.toInt64 0 v_10) := hw_11
      refine lv_if_ne (tgt := 47) hx hb de_S_plan_34 (by decide) (fun c_12 => ?_) (fun c_12 => ?_)
      · skip
        have c_12 := bz_t hw_11 c_12
        refine lv_iload_n hx hb de_S_plan_47 rfl (lv_at hl 2 rfl) ?_
        refine lv_if_eq (tgt := 55) hx hb de_S_plan_48 (by decide) (fun c_13 => ?_) (fun c_13 => ?_)
        · skip
          exact absurd c_13 hz0
        · skip
          refine lv_lconst (v := 0) hx hb de_S_plan_51 (by decide) ?_
          refine lv_goto (tgt := 58) hx hb de_S_plan_52 (by decide) ?_
          refine lv_lstore (lv' := [(6, .long 0), (5, .int (nI (t.2.2.2 1))), (0, .ref (ad 0)), (1, .int a0), (2, .int a1), (3, .long a2)]) hx hb de_S_plan_58 hl (by decide) rfl (fun ls hl => ?_)
          refine lv_iload_n hx hb de_S_plan_60 rfl (lv_at hl 3 rfl) ?_
          refine lv_if_eq (tgt := 76) hx hb de_S_plan_61 (by decide) (fun c_14 => ?_) (fun c_14 => ?_)
          · skip
            exact absurd c_14 hz0
          · skip
            refine lv_aload_n hx hb de_S_plan_64 rfl (lv_at hl 2 rfl) ?_
            refine va_get (D := (dC, dI)) (ci := 0) (v := .ref (ad 2)) (C := "StabilitySums") (T := TB_S) (N := 10) hx hb hts ui_S hown hK hP 0 rfl rfl 1 (by decide) (hts _ uw_257) (fun _ h9 => h9) rfl de_S_plan_65 ?_
            refine va_get (D := (dC, dI)) (ci := 2) (v := .ref (ad 13)) (C := "StabilitySums$Tanks") (T := TB_T) (N := 9) hx hb hts ui_T hown hK hP 2 rfl rfl 0 (by decide) (hts _ uw_88) (fun _ h9 => h9) rfl de_S_plan_68 ?_
            refine lv_iload_n hx hb de_S_plan_71 rfl (lv_at hl 4 rfl) ?_
            have hix_72 : a1 = nI a1.toNatClampNeg := cl_eq hok.1
            refine rx_lald (f := t.1 4) (j := a1.toNatClampNeg) hx hb hK hP 13 0 rfl rfl (Nat.lt_of_lt_of_le (cl_lt hok.1 hok.2 (by omega)) (by omega)) (by decide) de_S_plan_72 hix_72 ?_
            refine lv_goto (tgt := 79) hx hb de_S_plan_73 (by decide) ?_
            refine lv_lstore (lv' := [(8, .long (t.1 4 a1.toNatClampNeg)), (6, .long 0), (5, .int (nI (t.2.2.2 1))), (0, .ref (ad 0)), (1, .int a0), (2, .int a1), (3, .long a2)]) hx hb de_S_plan_79 hl (by decide) rfl (fun ls hl => ?_)
            refine lv_lload_n hx hb de_S_plan_81 rfl (lv_at hl 6 rfl) ?_
            refine lv_lload hx hb de_S_plan_82 (lv_at hl 1 rfl) ?_
            refine lv_lload hx hb de_S_plan_84 (lv_at hl 0 rfl) ?_
            refine cl_Si (As := [.long a2, .long 0, .long (t.1 4 a1.toNatClampNeg)]) (rest := []) ⟨hx, hb, hml, hown, hts⟩ (mt_S_isWithin l dC dI ad T t a2 0 (t.1 4 a1.toNatClampNeg)) (va_cwS 3 hts (uw_S uw_295 uw_296 uw_27 uw_297) rfl rfl rfl (by decide +kernel) ⟨Nat.le_of_ble_eq_true rfl, Nat.le_of_ble_eq_true rfl⟩) rfl hl.1 rfl (Nat.le_of_ble_eq_true rfl) de_S_plan_86 ⟨Nat.zero_le _, Nat.zero_le _⟩ hK hN hP hD hS hA (fun r_15 _ H locs hw_15 hP hD hS => ?_)
            have hw_15 : bz r_15 (x_in a2 0 (t.1 4 a1.toNatClampNeg)) := hw_15
            refine lv_if_ne (tgt := 102) hx hb de_S_plan_89 (by decide) (fun c_16 => ?_) (fun c_16 => ?_)
            · skip
              have c_16 := bz_t hw_15 c_16
              exact absurd c_16 hk9
            · skip
              have c_16 := bz_f hw_15 c_16
              subst hQ
              subst hAe
              exact th_fin (text := "a step can't be so") hx hb hlt hown (by decide) hts hX uw_449 uw_40 (by decide) th_o_IAE th_u_IAE hP0 (fun _ h => h) hP hD hS hA (hl.1.trans hml.symm) de_S_plan_92 de_S_plan_95 de_S_plan_96 de_S_plan_98 de_S_plan_101 (by rw [Array.isEmpty_iff.mp (B.noHandlers (hts _ uw_673))]) (Nat.le_of_ble_eq_true rfl) (Nat.le_of_ble_eq_true rfl) (Nat.le_of_ble_eq_true rfl) (Nat.le_of_ble_eq_true rfl) hlocks
      · skip
        have c_12 := bz_f hw_11 c_12
        exact absurd ((xi_th (by assumption) (by omega)).mpr hok) c_12
set_option maxHeartbeats 4000000 in
set_option maxRecDepth 100000 in
theorem mt_S_plan_3 (l : Launch) (hlt : l.stackTraces = false) (dC : Nat → ClassId) (dI : Nat → Nat → Nat) (ad : Nat → Nat) (T : Nat → ClassId) (t : St) (a0 : Int32) (a1 : Int32) (a2 : Int64) (hI : Iv t) (hok : x_th a1 (x_pn a0 t)) (hk9 : x_pk a0 a1 a2 t) (hc : ¬ t.2.2.2 4 < 20) (sz : Nat) : MT l yn_S_plan (.code yn_S_plan cd_S_plan 10 (some .int) :: UW) ({ frames := 6, cells := 1, slots := 6, locals := 90 } : Room) (va_Pc [.ref (ad 0), .int a0, .int a1, .long a2] (Px (dC, dI) CLS (TY T) (wS ad T t) sz)) "java/lang/IllegalStateException" (fun t9 => va_P (dC, dI) CLS (wS ad T t) t9.heap ∧ va_D (va_A (wS ad T t) sz) (wS ad T t)) (va_A (wS ad T t) sz) := by
  refine MT.ofW (cc := cd_S_plan) (maxL := 10) (ret := (some .int)) (by decide) rfl ?_
  intro p e s m args below meth c s₁ B hml hv
  obtain ⟨rfl, ⟨hsz, hP, hK, hD0, hN⟩, hX⟩ := hv
  have hP0 := hP
  have hx := B.exec
  have hb := B.bytes
  have hr := B.returns
  have hts : ∀ w ∈ UW, w.before _ s = true := fun w h => atoms_spec (ws := .code yn_S_plan cd_S_plan 10 (some .int) :: UW) B.pre w (List.mem_cons_of_mem _ h)
  have hown : s.vm.findClass "StabilitySums" = some m.cls := findClass_of_methodNamed B.named
  have hlocks := B.notSynchronized
  subst hsz
  have hD := hD0.self (sz := s.heap.size)
  generalize hAe : va_A (wS ad T t) s.heap.size = A at hD ⊢
  have hA : ∀ q : Nat, s.heap.size ≤ q → A q := fun q h => by rw [← hAe]; exact Or.inr h
  have hS : va_S A s.heap s.heap [] := va_S.rf
  have hl := lv_entry ([.ref (ad 0), .int a0, .int a1, .long a2]) (n := 10) (Nat.le_of_ble_eq_true rfl)
  rw [lg_entry_eq]
  generalize (lg_sl ([.ref (ad 0), .int a0, .int a1, .long a2]) ++ List.replicate (10 - (lg_sl ([.ref (ad 0), .int a0, .int a1, .long a2])).length) Slot.unset).toArray = ls at hl ⊢
  have hl : lv_has ls 10 [(0, .ref (ad 0)), (1, .int a0), (2, .int a1), (3, .long a2)] := hl
  generalize hQ : MQT below s _ _ A = Q
  obtain ⟨hI0, hI1, hI2, hI3, hI4, hI5⟩ := hI
  by_cases hz0 : a0 = 0
  · skip
    rw [x_pn, if_pos hz0] at hok
    rw [x_pk, if_pos hz0] at hk9
    refine lv_iload_n hx hb de_S_plan_0 rfl (lv_at hl 1 rfl) ?_
    refine lv_if_eq (tgt := 14) hx hb de_S_plan_1 (by decide) (fun c_1 => ?_) (fun c_1 => ?_)
    · skip
      refine lv_aload_n hx hb de_S_plan_14 rfl (lv_at hl 0 rfl) ?_
      refine va_get (D := (dC, dI)) (ci := 0) (v := .ref (ad 1)) (C := "StabilitySums") (T := TB_S) (N := 10) hx hb hts ui_S hown hK hP 0 rfl rfl 0 (by decide) (hts _ uw_256) (fun _ h9 => h9) rfl de_S_plan_15 ?_
      refine va_get (D := (dC, dI)) (ci := 1) (v := .int (nI (t.2.2.2 0))) (C := "StabilitySums$Weights") (T := TB_W) (N := 5) hx hb hts ui_W hown hK hP 1 rfl rfl 4 (by decide) (hts _ uw_68) (fun _ h9 => h9) rfl de_S_plan_18 ?_
      refine lv_istore (lv' := [(5, .int (nI (t.2.2.2 0))), (0, .ref (ad 0)), (1, .int a0), (2, .int a1), (3, .long a2)]) hx hb de_S_plan_21 hl (by decide) rfl (fun ls hl => ?_)
      refine lv_iload_n hx hb de_S_plan_23 rfl (lv_at hl 3 rfl) ?_
      refine lv_i2l (v := a1.toInt64) hx hb de_S_plan_24 rfl ?_
      refine lv_lconst (v := 0) hx hb de_S_plan_25 (by decide) ?_
      refine lv_iload hx hb de_S_plan_26 (lv_at hl 0 rfl) ?_
      refine lv_i2l (v := ((nI (t.2.2.2 0)).toInt64)) hx hb de_S_plan_28 rfl ?_
      refine lv_lconst (v := 1) hx hb de_S_plan_29 (by decide) ?_
      refine lv_lsub hx hb de_S_plan_30 ?_
      refine lv_topl (fun v_2 ev_2 => ?_)
      have ev_2 : v_2 = ((nI (t.2.2.2 0)).toInt64) - 1 := ev_2
      refine cl_Si (As := [.long a1.toInt64, .long 0, .long v_2]) (rest := []) ⟨hx, hb, hml, hown, hts⟩ (mt_S_isWithin l dC dI ad T t a1.toInt64 0 v_2) (va_cwS 3 hts (uw_S uw_295 uw_296 uw_27 uw_297) rfl rfl rfl (by decide +kernel) ⟨Nat.le_of_ble_eq_true rfl, Nat.le_of_ble_eq_true rfl⟩) rfl hl.1 rfl (Nat.le_of_ble_eq_true rfl) de_S_plan_31 ⟨Nat.zero_le _, Nat.zero_le _⟩ hK hN hP hD hS hA (fun r_3 _ H locs hw_3 hP hD hS => ?_)
      have hw_3 : bz r_3 (x_in a1.toInt64 0 v_2) := hw_3
      refine lv_if_ne (tgt := 47) hx hb de_S_plan_34 (by decide) (fun c_4 => ?_) (fun c_4 => ?_)
      · skip
        have c_4 := bz_t hw_3 c_4
        refine lv_iload_n hx hb de_S_plan_47 rfl (lv_at hl 2 rfl) ?_
        refine lv_if_eq (tgt := 55) hx hb de_S_plan_48 (by decide) (fun c_5 => ?_) (fun c_5 => ?_)
        · skip
          refine lv_ldc2 (v := (-100000)) hx hb hown (hts _ uw_444) de_S_plan_55 ?_
          refine lv_lstore (lv' := [(6, .long (-100000)), (5, .int (nI (t.2.2.2 0))), (0, .ref (ad 0)), (1, .int a0), (2, .int a1), (3, .long a2)]) hx hb de_S_plan_58 hl (by decide) rfl (fun ls hl => ?_)
          refine lv_iload_n hx hb de_S_plan_60 rfl (lv_at hl 3 rfl) ?_
          refine lv_if_eq (tgt := 76) hx hb de_S_plan_61 (by decide) (fun c_6 => ?_) (fun c_6 => ?_)
          · skip
            refine lv_ldc2 (v := 100000) hx hb hown (hts _ uw_445) de_S_plan_76 ?_
            refine lv_lstore (lv' := [(8, .long 100000), (6, .long (-100000)), (5, .int (nI (t.2.2.2 0))), (0, .ref (ad 0)), (1, .int a0), (2, .int a1), (3, .long a2)]) hx hb de_S_plan_79 hl (by decide) rfl (fun ls hl => ?_)
            refine lv_lload_n hx hb de_S_plan_81 rfl (lv_at hl 6 rfl) ?_
            refine lv_lload hx hb de_S_plan_82 (lv_at hl 1 rfl) ?_
            refine lv_lload hx hb de_S_plan_84 (lv_at hl 0 rfl) ?_
            refine cl_Si (As := [.long a2, .long (-100000), .long 100000]) (rest := []) ⟨hx, hb, hml, hown, hts⟩ (mt_S_isWithin l dC dI ad T t a2 (-100000) 100000) (va_cwS 3 hts (uw_S uw_295 uw_296 uw_27 uw_297) rfl rfl rfl (by decide +kernel) ⟨Nat.le_of_ble_eq_true rfl, Nat.le_of_ble_eq_true rfl⟩) rfl hl.1 rfl (Nat.le_of_ble_eq_true rfl) de_S_plan_86 ⟨Nat.zero_le _, Nat.zero_le _⟩ hK hN hP hD hS hA (fun r_7 _ H locs hw_7 hP hD hS => ?_)
            have hw_7 : bz r_7 (x_in a2 (-100000) 100000) := hw_7
            refine lv_if_ne (tgt := 102) hx hb de_S_plan_89 (by decide) (fun c_8 => ?_) (fun c_8 => ?_)
            · skip
              have c_8 := bz_t hw_7 c_8
              refine lv_aload_n hx hb de_S_plan_102 rfl (lv_at hl 3 rfl) ?_
              refine va_get (D := (dC, dI)) (ci := 0) (v := .ref (ad 5)) (C := "StabilitySums") (T := TB_S) (N := 10) hx hb hts ui_S hown hK hP 0 rfl rfl 4 (by decide) (hts _ uw_260) (fun _ h9 => h9) rfl de_S_plan_103 ?_
              refine va_get (D := (dC, dI)) (ci := 5) (v := .int (nI (t.2.2.2 4))) (C := "StabilitySums$Steps") (T := TB_E) (N := 4) hx hb hts ui_E hown hK hP 5 rfl rfl 3 (by decide) (hts _ uw_180) (fun _ h9 => h9) rfl de_S_plan_106 ?_
              refine lv_bipush (v := 20) hx hb de_S_plan_109 (by decide) ?_
              refine lv_icmp_lt (tgt := 124) hx hb de_S_plan_111 (by decide) (fun c_9 => ?_) (fun c_9 => ?_)
              · skip
                have c_9 : (t.2.2.2 4) < 20 := (nI_ltI (a := t.2.2.2 4) (b := 20) (by omega) (by omega)).mp c_9
                exact absurd c_9 hc
              · skip
                have c_9 : ¬ ((t.2.2.2 4) < 20) := fun z => c_9 ((nI_ltI (a := t.2.2.2 4) (b := 20) (by omega) (by omega)).mpr z)
                subst hQ
                subst hAe
                exact th_fin (text := "there are 20 steps") hx hb hlt hown (by decide) hts hX uw_518 uw_41 (by decide) th_o_ISE th_u_ISE hP0 (fun _ h => h) hP hD hS hA (hl.1.trans hml.symm) de_S_plan_114 de_S_plan_117 de_S_plan_118 de_S_plan_120 de_S_plan_123 (by rw [Array.isEmpty_iff.mp (B.noHandlers (hts _ uw_673))]) (Nat.le_of_ble_eq_true rfl) (Nat.le_of_ble_eq_true rfl) (Nat.le_of_ble_eq_true rfl) (Nat.le_of_ble_eq_true rfl) hlocks
            · skip
              have c_8 := bz_f hw_7 c_8
              exact absurd hk9 c_8
          · skip
            exact absurd hz0 c_6
        · skip
          exact absurd hz0 c_5
      · skip
        have c_4 := bz_f hw_3 c_4
        exact absurd ((xi_th (by assumption) (by omega)).mpr hok) c_4
    · skip
      exact absurd hz0 c_1
  · skip
    rw [x_pn, if_neg hz0] at hok
    rw [x_pk, if_neg hz0] at hk9
    refine lv_iload_n hx hb de_S_plan_0 rfl (lv_at hl 1 rfl) ?_
    refine lv_if_eq (tgt := 14) hx hb de_S_plan_1 (by decide) (fun c_10 => ?_) (fun c_10 => ?_)
    · skip
      exact absurd c_10 hz0
    · skip
      refine lv_aload_n hx hb de_S_plan_4 rfl (lv_at hl 0 rfl) ?_
      refine va_get (D := (dC, dI)) (ci := 0) (v := .ref (ad 2)) (C := "StabilitySums") (T := TB_S) (N := 10) hx hb hts ui_S hown hK hP 0 rfl rfl 1 (by decide) (hts _ uw_257) (fun _ h9 => h9) rfl de_S_plan_5 ?_
      refine va_get (D := (dC, dI)) (ci := 2) (v := .int (nI (t.2.2.2 1))) (C := "StabilitySums$Tanks") (T := TB_T) (N := 9) hx hb hts ui_T hown hK hP 2 rfl rfl 8 (by decide) (hts _ uw_103) (fun _ h9 => h9) rfl de_S_plan_8 ?_
      refine lv_goto (tgt := 21) hx hb de_S_plan_11 (by decide) ?_
      refine lv_istore (lv' := [(5, .int (nI (t.2.2.2 1))), (0, .ref (ad 0)), (1, .int a0), (2, .int a1), (3, .long a2)]) hx hb de_S_plan_21 hl (by decide) rfl (fun ls hl => ?_)
      refine lv_iload_n hx hb de_S_plan_23 rfl (lv_at hl 3 rfl) ?_
      refine lv_i2l (v := a1.toInt64) hx hb de_S_plan_24 rfl ?_
      refine lv_lconst (v := 0) hx hb de_S_plan_25 (by decide) ?_
      refine lv_iload hx hb de_S_plan_26 (lv_at hl 0 rfl) ?_
      refine lv_i2l (v := ((nI (t.2.2.2 1)).toInt64)) hx hb de_S_plan_28 rfl ?_
      refine lv_lconst (v := 1) hx hb de_S_plan_29 (by decide) ?_
      refine lv_lsub hx hb de_S_plan_30 ?_
      refine lv_topl (fun v_11 ev_11 => ?_)
      have ev_11 : v_11 = ((nI (t.2.2.2 1)).toInt64) - 1 := ev_11
      refine cl_Si (As := [.long a1.toInt64, .long 0, .long v_11]) (rest := []) ⟨hx, hb, hml, hown, hts⟩ (mt_S_isWithin l dC dI ad T t a1.toInt64 0 v_11) (va_cwS 3 hts (uw_S uw_295 uw_296 uw_27 uw_297) rfl rfl rfl (by decide +kernel) ⟨Nat.le_of_ble_eq_true rfl, Nat.le_of_ble_eq_true rfl⟩) rfl hl.1 rfl (Nat.le_of_ble_eq_true rfl) de_S_plan_31 ⟨Nat.zero_le _, Nat.zero_le _⟩ hK hN hP hD hS hA (fun r_12 _ H locs hw_12 hP hD hS => ?_)
      have hw_12 : bz r_12 (x_in a1.toInt64 0 v_11) := hw_12
      refine lv_if_ne (tgt := 47) hx hb de_S_plan_34 (by decide) (fun c_13 => ?_) (fun c_13 => ?_)
      · skip
        have c_13 := bz_t hw_12 c_13
        refine lv_iload_n hx hb de_S_plan_47 rfl (lv_at hl 2 rfl) ?_
        refine lv_if_eq (tgt := 55) hx hb de_S_plan_48 (by decide) (fun c_14 => ?_) (fun c_14 => ?_)
        · skip
          exact absurd c_14 hz0
        · skip
          refine lv_lconst (v := 0) hx hb de_S_plan_51 (by decide) ?_
          refine lv_goto (tgt := 58) hx hb de_S_plan_52 (by decide) ?_
          refine lv_lstore (lv' := [(6, .long 0), (5, .int (nI (t.2.2.2 1))), (0, .ref (ad 0)), (1, .int a0), (2, .int a1), (3, .long a2)]) hx hb de_S_plan_58 hl (by decide) rfl (fun ls hl => ?_)
          refine lv_iload_n hx hb de_S_plan_60 rfl (lv_at hl 3 rfl) ?_
          refine lv_if_eq (tgt := 76) hx hb de_S_plan_61 (by decide) (fun c_15 => ?_) (fun c_15 => ?_)
          · skip
            exact absurd c_15 hz0
          · skip
            refine lv_aload_n hx hb de_S_plan_64 rfl (lv_at hl 2 rfl) ?_
            refine va_get (D := (dC, dI)) (ci := 0) (v := .ref (ad 2)) (C := "StabilitySums") (T := TB_S) (N := 10) hx hb hts ui_S hown hK hP 0 rfl rfl 1 (by decide) (hts _ uw_257) (fun _ h9 => h9) rfl de_S_plan_65 ?_
            refine va_get (D := (dC, dI)) (ci := 2) (v := .ref (ad 13)) (C := "StabilitySums$Tanks") (T := TB_T) (N := 9) hx hb hts ui_T hown hK hP 2 rfl rfl 0 (by decide) (hts _ uw_88) (fun _ h9 => h9) rfl de_S_plan_68 ?_
            refine lv_iload_n hx hb de_S_plan_71 rfl (lv_at hl 4 rfl) ?_
            have hix_72 : a1 = nI a1.toNatClampNeg := cl_eq hok.1
            refine rx_lald (f := t.1 4) (j := a1.toNatClampNeg) hx hb hK hP 13 0 rfl rfl (Nat.lt_of_lt_of_le (cl_lt hok.1 hok.2 (by omega)) (by omega)) (by decide) de_S_plan_72 hix_72 ?_
            refine lv_goto (tgt := 79) hx hb de_S_plan_73 (by decide) ?_
            refine lv_lstore (lv' := [(8, .long (t.1 4 a1.toNatClampNeg)), (6, .long 0), (5, .int (nI (t.2.2.2 1))), (0, .ref (ad 0)), (1, .int a0), (2, .int a1), (3, .long a2)]) hx hb de_S_plan_79 hl (by decide) rfl (fun ls hl => ?_)
            refine lv_lload_n hx hb de_S_plan_81 rfl (lv_at hl 6 rfl) ?_
            refine lv_lload hx hb de_S_plan_82 (lv_at hl 1 rfl) ?_
            refine lv_lload hx hb de_S_plan_84 (lv_at hl 0 rfl) ?_
            refine cl_Si (As := [.long a2, .long 0, .long (t.1 4 a1.toNatClampNeg)]) (rest := []) ⟨hx, hb, hml, hown, hts⟩ (mt_S_isWithin l dC dI ad T t a2 0 (t.1 4 a1.toNatClampNeg)) (va_cwS 3 hts (uw_S uw_295 uw_296 uw_27 uw_297) rfl rfl rfl (by decide +kernel) ⟨Nat.le_of_ble_eq_true rfl, Nat.le_of_ble_eq_true rfl⟩) rfl hl.1 rfl (Nat.le_of_ble_eq_true rfl) de_S_plan_86 ⟨Nat.zero_le _, Nat.zero_le _⟩ hK hN hP hD hS hA (fun r_16 _ H locs hw_16 hP hD hS => ?_)
            have hw_16 : bz r_16 (x_in a2 0 (t.1 4 a1.toNatClampNeg)) := hw_16
            refine lv_if_ne (tgt := 102) hx hb de_S_plan_89 (by decide) (fun c_17 => ?_) (fun c_17 => ?_)
            · skip
              have c_17 := bz_t hw_16 c_17
              refine lv_aload_n hx hb de_S_plan_102 rfl (lv_at hl 3 rfl) ?_
              refine va_get (D := (dC, dI)) (ci := 0) (v := .ref (ad 5)) (C := "StabilitySums") (T := TB_S) (N := 10) hx hb hts ui_S hown hK hP 0 rfl rfl 4 (by decide) (hts _ uw_260) (fun _ h9 => h9) rfl de_S_plan_103 ?_
              refine va_get (D := (dC, dI)) (ci := 5) (v := .int (nI (t.2.2.2 4))) (C := "StabilitySums$Steps") (T := TB_E) (N := 4) hx hb hts ui_E hown hK hP 5 rfl rfl 3 (by decide) (hts _ uw_180) (fun _ h9 => h9) rfl de_S_plan_106 ?_
              refine lv_bipush (v := 20) hx hb de_S_plan_109 (by decide) ?_
              refine lv_icmp_lt (tgt := 124) hx hb de_S_plan_111 (by decide) (fun c_18 => ?_) (fun c_18 => ?_)
              · skip
                have c_18 : (t.2.2.2 4) < 20 := (nI_ltI (a := t.2.2.2 4) (b := 20) (by omega) (by omega)).mp c_18
                exact absurd c_18 hc
              · skip
                have c_18 : ¬ ((t.2.2.2 4) < 20) := fun z => c_18 ((nI_ltI (a := t.2.2.2 4) (b := 20) (by omega) (by omega)).mpr z)
                subst hQ
                subst hAe
                exact th_fin (text := "there are 20 steps") hx hb hlt hown (by decide) hts hX uw_518 uw_41 (by decide) th_o_ISE th_u_ISE hP0 (fun _ h => h) hP hD hS hA (hl.1.trans hml.symm) de_S_plan_114 de_S_plan_117 de_S_plan_118 de_S_plan_120 de_S_plan_123 (by rw [Array.isEmpty_iff.mp (B.noHandlers (hts _ uw_673))]) (Nat.le_of_ble_eq_true rfl) (Nat.le_of_ble_eq_true rfl) (Nat.le_of_ble_eq_true rfl) (Nat.le_of_ble_eq_true rfl) hlocks
            · skip
              have c_17 := bz_f hw_16 c_17
              exact absurd hk9 c_17
      · skip
        have c_13 := bz_f hw_12 c_13
        exact absurd ((xi_th (by assumption) (by omega)).mpr hok) c_13
set_option maxHeartbeats 4000000 in
set_option maxRecDepth 100000 in
theorem mt_S_step (l : Launch) (dC : Nat → ClassId) (dI : Nat → Nat → Nat) (ad : Nat → Nat) (T : Nat → ClassId) (t : St) (a0 : Int32) (hI : Iv t) (hE : EO t) (hok : x_th a0 (t.2.2.2 4)) (sz : Nat) : Met l yn_S_step (.code yn_S_step cd_S_step 3 (some .int) :: UW) ({ frames := 6, cells := 0, slots := 0, locals := 123 } : Room) (va_Pc [.ref (ad 0), .int a0] (Pw (dC, dI) CLS (TY T) (wS ad T t) sz)) (va_Qi (fun (r : Int32) (_ : Unit) => r = nI (x_lbn (x_ss a0 t))) (Bw (dC, dI) CLS (TY T) (fun _ : Unit => (wS ad T (x_lbt (x_ss a0 t)))) (va_A (wS ad T t) sz)) (va_A (wS ad T t) sz)) 0 0 (va_A (wS ad T t) sz) := by
  refine Met.ofW (cc := cd_S_step) (maxL := 3) (ret := (some .int)) (by decide) rfl ?_
  intro p e s m args below meth c s₁ B hml hv
  obtain ⟨rfl, hsz, hP, hK, hD0, hN⟩ := hv
  have hx := B.exec
  have hb := B.bytes
  have hr := B.returns
  have hts : ∀ w ∈ UW, w.before _ s = true := fun w h => atoms_spec (ws := .code yn_S_step cd_S_step 3 (some .int) :: UW) B.pre w (List.mem_cons_of_mem _ h)
  have hown : s.vm.findClass "StabilitySums" = some m.cls := findClass_of_methodNamed B.named
  have hlocks := B.notSynchronized
  subst hsz
  have hD := hD0.self (sz := s.heap.size)
  generalize hAe : va_A (wS ad T t) s.heap.size = A at hD ⊢
  have hA : ∀ q : Nat, s.heap.size ≤ q → A q := fun q h => by rw [← hAe]; exact Or.inr h
  have hS : va_S A s.heap s.heap [] := va_S.rf
  have hl := lv_entry ([.ref (ad 0), .int a0]) (n := 3) (Nat.le_of_ble_eq_true rfl)
  rw [lg_entry_eq]
  generalize (lg_sl ([.ref (ad 0), .int a0]) ++ List.replicate (3 - (lg_sl ([.ref (ad 0), .int a0])).length) Slot.unset).toArray = ls at hl ⊢
  have hl : lv_has ls 3 [(0, .ref (ad 0)), (1, .int a0)] := hl
  generalize hQ : MQ below _ _ s 0 0 A = Q
  obtain ⟨hI0, hI1, hI2, hI3, hI4, hI5⟩ := hI
  refine lv_iload_n hx hb de_S_step_0 rfl (lv_at hl 1 rfl) ?_
  refine lv_i2l (v := a0.toInt64) hx hb de_S_step_1 rfl ?_
  refine lv_lconst (v := 0) hx hb de_S_step_2 (by decide) ?_
  refine lv_aload_n hx hb de_S_step_3 rfl (lv_at hl 0 rfl) ?_
  refine va_get (D := (dC, dI)) (ci := 0) (v := .ref (ad 5)) (C := "StabilitySums") (T := TB_S) (N := 10) hx hb hts ui_S hown hK hP 0 rfl rfl 4 (by decide) (hts _ uw_260) (fun _ h9 => h9) rfl de_S_step_4 ?_
  refine va_get (D := (dC, dI)) (ci := 5) (v := .int (nI (t.2.2.2 4))) (C := "StabilitySums$Steps") (T := TB_E) (N := 4) hx hb hts ui_E hown hK hP 5 rfl rfl 3 (by decide) (hts _ uw_180) (fun _ h9 => h9) rfl de_S_step_7 ?_
  refine lv_i2l (v := ((nI (t.2.2.2 4)).toInt64)) hx hb de_S_step_10 rfl ?_
  refine lv_lconst (v := 1) hx hb de_S_step_11 (by decide) ?_
  refine lv_lsub hx hb de_S_step_12 ?_
  refine lv_topl (fun v_1 ev_1 => ?_)
  have ev_1 : v_1 = ((nI (t.2.2.2 4)).toInt64) - 1 := ev_1
  refine cl_Si (As := [.long a0.toInt64, .long 0, .long v_1]) (rest := []) ⟨hx, hb, hml, hown, hts⟩ (mt_S_isWithin l dC dI ad T t a0.toInt64 0 v_1) (va_cwS 3 hts (uw_S uw_295 uw_296 uw_27 uw_297) rfl rfl rfl (by decide +kernel) ⟨Nat.le_of_ble_eq_true rfl, Nat.le_of_ble_eq_true rfl⟩) rfl hl.1 rfl (Nat.le_of_ble_eq_true rfl) de_S_step_13 ⟨Nat.zero_le _, Nat.zero_le _⟩ hK hN hP hD hS hA (fun r_2 _ H locs hw_2 hP hD hS => ?_)
  have hw_2 : bz r_2 (x_in a0.toInt64 0 v_1) := hw_2
  refine lv_if_ne (tgt := 29) hx hb de_S_step_16 (by decide) (fun c_3 => ?_) (fun c_3 => ?_)
  · skip
    have c_3 := bz_t hw_2 c_3
    have ha9 : a0.toNatClampNeg < t.2.2.2 4 := cl_lt hok.1 hok.2 (by omega)
    have hb8 : a0 = nI a0.toNatClampNeg := cl_eq hok.1
    refine lv_aload_n hx hb de_S_step_29 rfl (lv_at hl 0 rfl) ?_
    refine cl_Vv (As := []) (rest := []) ⟨hx, hb, hml, hown, hts⟩ (mt_S_gather l dC dI ad T t (show Iv t from (by refine ⟨?_, ?_, ?_, ?_, ?_, ?_⟩ <;> omega))) (cwV 0 hts (uw_V uw_302 uw_304 uw_0 uw_27 uw_305) rfl rfl rfl (by decide +kernel) ⟨Nat.le_of_ble_eq_true rfl, Nat.le_of_ble_eq_true rfl⟩) (va_recv hK hP (ci := 0) (q0 := 0) rfl rfl) rfl hl.1 rfl (Nat.le_of_ble_eq_true rfl) de_S_step_30 ⟨Nat.zero_le _, Nat.zero_le _⟩ hK hN hP hD hS hA (fun _ H locs hw_4 hP hD hS => ?_)
    obtain ⟨t_5, et_5⟩ : ∃ z, z = x_gath t := ⟨_, rfl⟩
    have hP : va_P (dC, dI) CLS (wS ad T t_5) H := by rw [et_5]; exact hP
    have hD : va_D A (wS ad T t_5) := by rw [et_5]; exact hD
    obtain ⟨_, _, _, _, _, _⟩ : t_5.2.2.2 0 = t.2.2.2 0 ∧ t_5.2.2.2 1 = t.2.2.2 1 ∧ t_5.2.2.2 2 = t.2.2.2 2 ∧ t_5.2.2.2 3 = t.2.2.2 3 ∧ t_5.2.2.2 4 = t.2.2.2 4 ∧ t_5.2.2.2 5 = t.2.2.2 3 := by rw [et_5]; exact x_gath_6 t
    refine lv_iconst (v := 0) hx hb de_S_step_33 (by decide) ?_
    refine lv_istore_n (lv' := [(2, .int 0), (0, .ref (ad 0)), (1, .int a0)]) hx hb de_S_step_34 rfl hl (by decide) rfl (fun ls hl => ?_)
    have loop_35 : ∀ (n : Nat) (i : Nat) (t1 : St), (i + n = a0.toNatClampNeg + 1) → (N6p t1 t_5) → (EO t1) → (x_sl n i t1 = x_ss a0 t) → ∀ (H : Heap) (locs : List Loc) (ls : Array Slot), va_P (dC, dI) CLS (wS ad T t1) H → va_D A (wS ad T t1) → va_S A s.heap H locs → lv_has ls 3 [(0, .ref (ad 0)), (1, .int a0), (2, .int (nI i))] → W p l e (headSpec (.code yn_S_step cd_S_step 3 (some .int) :: UW) ({ frames := 6, cells := 0, slots := 0, locals := 123 } : Room)).room s m ([.ref (ad 0), .int a0] : List Value).toArray below meth c H locs 0 0 Q (F0 m 35 ls []) := by
      intro n
      induction n with
      | zero =>
        intro i t1 hi hk hE1 hq H locs ls hP hD hS hl
        obtain ⟨_, _, _, _, _, _⟩ := hk
        refine lv_iload_n hx hb de_S_step_35 rfl (lv_at hl 2 rfl) ?_
        refine lv_iload_n hx hb de_S_step_36 rfl (lv_at hl 1 rfl) ?_
        refine lv_icmp_gt (tgt := 51) hx hb de_S_step_37 (by decide) (fun c_6 => ?_) (fun c_6 => ?_)
        · skip
          refine lv_aload_n hx hb de_S_step_51 rfl (lv_at hl 0 rfl) ?_
          refine cl_Vi (As := []) (rest := []) ⟨hx, hb, hml, hown, hts⟩ (mt_S_leastBroken l dC dI ad T t1 (show Iv t1 from (by refine ⟨?_, ?_, ?_, ?_, ?_, ?_⟩ <;> omega))) (cwV 0 hts (uw_V uw_341 uw_343 uw_3 uw_27 uw_344) rfl rfl rfl (by decide +kernel) ⟨Nat.le_of_ble_eq_true rfl, Nat.le_of_ble_eq_true rfl⟩) (va_recv hK hP (ci := 0) (q0 := 0) rfl rfl) rfl hl.1 rfl (Nat.le_of_ble_eq_true rfl) de_S_step_52 ⟨Nat.zero_le _, Nat.zero_le _⟩ hK hN hP hD hS hA (fun r_7 _ H locs hw_7 hP hD hS => ?_)
          have hw_7 : r_7 = nI (x_lbn t1) := hw_7
          subst hw_7
          have : x_lbn t1 ≤ 1 + t1.2.2.2 3 := x_lb_le _ _ _
          obtain ⟨t_8, et_8⟩ : ∃ z, z = x_lbt t1 := ⟨_, rfl⟩
          have hP : va_P (dC, dI) CLS (wS ad T t_8) H := by rw [et_8]; exact hP
          have hD : va_D A (wS ad T t_8) := by rw [et_8]; exact hD
          obtain ⟨_, _, _, _, _, _⟩ : N6p t_8 t1 := by rw [et_8]; exact nsix (x_lb_N _ _ _)
          have hfin : t_8 = x_lbt (x_ss a0 t) := by
            rw [← hq]; assumption
          rw [hfin] at hP hD
          subst hQ
          have hpost : ((nI (x_lbn t1)) : Int32) = nI (x_lbn (x_ss a0 t)) := by
            rw [← hq]; rfl
          exact W.iret (v := (nI (x_lbn t1))) hx hb hr (fun t9 ht hW => ⟨⟨(nI (x_lbn t1)), (), rfl, hpost, by rw [ht]; exact hP, va_K.moved hW.alike hK, hD⟩, hS.F ht⟩) hS.2.2 de_S_step_55
        · skip
          exfalso; rw [hb8] at c_6; first | (have := (nI_ltI (a := a0.toNatClampNeg) (b := i) (by omega) (by omega)).mp c_6; omega) | exact c_6 ((nI_ltI (a := a0.toNatClampNeg) (b := i) (by omega) (by omega)).mpr (by omega))
      | succ n ih =>
        intro i t1 hi hk hE1 hq H locs ls hP hD hS hl
        obtain ⟨_, _, _, _, _, _⟩ := hk
        refine lv_iload_n hx hb de_S_step_35 rfl (lv_at hl 2 rfl) ?_
        refine lv_iload_n hx hb de_S_step_36 rfl (lv_at hl 1 rfl) ?_
        refine lv_icmp_gt (tgt := 51) hx hb de_S_step_37 (by decide) (fun c_9 => ?_) (fun c_9 => ?_)
        · skip
          exfalso; rw [hb8] at c_9; first | (have := (nI_ltI (a := a0.toNatClampNeg) (b := i) (by omega) (by omega)).mp c_9; omega) | exact c_9 ((nI_ltI (a := a0.toNatClampNeg) (b := i) (by omega) (by omega)).mpr (by omega))
        · skip
          refine lv_aload_n hx hb de_S_step_40 rfl (lv_at hl 0 rfl) ?_
          refine lv_iload_n hx hb de_S_step_41 rfl (lv_at hl 2 rfl) ?_
          refine cl_Vv (As := [.int (nI i)]) (rest := []) ⟨hx, hb, hml, hown, hts⟩ (mt_S_tryStep l dC dI ad T t1 i (show Iv t1 from (by refine ⟨?_, ?_, ?_, ?_, ?_, ?_⟩ <;> omega)) (show i < 20 from by omega) (hE1 i (by omega)).1 (hE1 i (by omega)).2.1 (hE1 i (by omega)).2.2) (cwV 1 hts (uw_V uw_423 uw_425 uw_11 uw_27 uw_426) rfl rfl rfl (by decide +kernel) ⟨Nat.le_of_ble_eq_true rfl, Nat.le_of_ble_eq_true rfl⟩) (va_recv hK hP (ci := 0) (q0 := 0) rfl rfl) rfl hl.1 rfl (Nat.le_of_ble_eq_true rfl) de_S_step_42 ⟨Nat.zero_le _, Nat.zero_le _⟩ hK hN hP hD hS hA (fun _ H locs hw_10 hP hD hS => ?_)
          obtain ⟨t_11, et_11⟩ : ∃ z, z = x_stp i t1 := ⟨_, rfl⟩
          have hP : va_P (dC, dI) CLS (wS ad T t_11) H := by rw [et_11]; exact hP
          have hD : va_D A (wS ad T t_11) := by rw [et_11]; exact hD
          obtain ⟨_, _, _, _, _, _⟩ : N6p t_11 t1 := by rw [et_11]; exact nsix (x_stp_N _ _)
          refine lv_iinc (v := (nI (i + 1))) (lv' := [(2, .int (nI (i + 1))), (0, .ref (ad 0)), (1, .int a0)]) hx hb de_S_step_45 hl (k := 2) rfl (nI_1 i) (by decide) rfl (fun ls hl => ?_)
          refine lv_goto (tgt := 35) hx hb de_S_step_48 (by decide) ?_
          exact ih (i + 1) t_11 (by omega) (by refine ⟨?_, ?_, ?_, ?_, ?_, ?_⟩ <;> omega) (hE1.same (by rw [et_11, x_stp_I]) (by omega)) (by rw [← hq, x_sl, et_11]) H locs ls hP hD hS (lv_sub hl [1, 2, 0] rfl)
    exact loop_35 (a0.toNatClampNeg + 1) 0 t_5 (by omega) (nsix rfl) (hE.same (by rw [et_5]; exact x_gath_I t) (by omega)) (by rw [et_5]) _ _ ls hP hD hS (lv_sub hl [1, 2, 0] rfl)
  · skip
    have c_3 := bz_f hw_2 c_3
    exact absurd ((xi_th (by assumption) (by omega)).mpr hok) c_3
set_option maxHeartbeats 4000000 in
set_option maxRecDepth 100000 in
theorem mt_S_step_1 (l : Launch) (hlt : l.stackTraces = false) (dC : Nat → ClassId) (dI : Nat → Nat → Nat) (ad : Nat → Nat) (T : Nat → ClassId) (t : St) (a0 : Int32) (hI : Iv t) (hb9 : ¬ x_th a0 (t.2.2.2 4)) (sz : Nat) : MT l yn_S_step (.code yn_S_step cd_S_step 3 (some .int) :: UW) ({ frames := 6, cells := 1, slots := 6, locals := 123 } : Room) (va_Pc [.ref (ad 0), .int a0] (Px (dC, dI) CLS (TY T) (wS ad T t) sz)) "java/lang/IndexOutOfBoundsException" (fun t9 => va_P (dC, dI) CLS (wS ad T t) t9.heap ∧ va_D (va_A (wS ad T t) sz) (wS ad T t)) (va_A (wS ad T t) sz) := by
  refine MT.ofW (cc := cd_S_step) (maxL := 3) (ret := (some .int)) (by decide) rfl ?_
  intro p e s m args below meth c s₁ B hml hv
  obtain ⟨rfl, ⟨hsz, hP, hK, hD0, hN⟩, hX⟩ := hv
  have hP0 := hP
  have hx := B.exec
  have hb := B.bytes
  have hr := B.returns
  have hts : ∀ w ∈ UW, w.before _ s = true := fun w h => atoms_spec (ws := .code yn_S_step cd_S_step 3 (some .int) :: UW) B.pre w (List.mem_cons_of_mem _ h)
  have hown : s.vm.findClass "StabilitySums" = some m.cls := findClass_of_methodNamed B.named
  have hlocks := B.notSynchronized
  subst hsz
  have hD := hD0.self (sz := s.heap.size)
  generalize hAe : va_A (wS ad T t) s.heap.size = A at hD ⊢
  have hA : ∀ q : Nat, s.heap.size ≤ q → A q := fun q h => by rw [← hAe]; exact Or.inr h
  have hS : va_S A s.heap s.heap [] := va_S.rf
  have hl := lv_entry ([.ref (ad 0), .int a0]) (n := 3) (Nat.le_of_ble_eq_true rfl)
  rw [lg_entry_eq]
  generalize (lg_sl ([.ref (ad 0), .int a0]) ++ List.replicate (3 - (lg_sl ([.ref (ad 0), .int a0])).length) Slot.unset).toArray = ls at hl ⊢
  have hl : lv_has ls 3 [(0, .ref (ad 0)), (1, .int a0)] := hl
  generalize hQ : MQT below s _ _ A = Q
  obtain ⟨hI0, hI1, hI2, hI3, hI4, hI5⟩ := hI
  refine lv_iload_n hx hb de_S_step_0 rfl (lv_at hl 1 rfl) ?_
  refine lv_i2l (v := a0.toInt64) hx hb de_S_step_1 rfl ?_
  refine lv_lconst (v := 0) hx hb de_S_step_2 (by decide) ?_
  refine lv_aload_n hx hb de_S_step_3 rfl (lv_at hl 0 rfl) ?_
  refine va_get (D := (dC, dI)) (ci := 0) (v := .ref (ad 5)) (C := "StabilitySums") (T := TB_S) (N := 10) hx hb hts ui_S hown hK hP 0 rfl rfl 4 (by decide) (hts _ uw_260) (fun _ h9 => h9) rfl de_S_step_4 ?_
  refine va_get (D := (dC, dI)) (ci := 5) (v := .int (nI (t.2.2.2 4))) (C := "StabilitySums$Steps") (T := TB_E) (N := 4) hx hb hts ui_E hown hK hP 5 rfl rfl 3 (by decide) (hts _ uw_180) (fun _ h9 => h9) rfl de_S_step_7 ?_
  refine lv_i2l (v := ((nI (t.2.2.2 4)).toInt64)) hx hb de_S_step_10 rfl ?_
  refine lv_lconst (v := 1) hx hb de_S_step_11 (by decide) ?_
  refine lv_lsub hx hb de_S_step_12 ?_
  refine lv_topl (fun v_1 ev_1 => ?_)
  have ev_1 : v_1 = ((nI (t.2.2.2 4)).toInt64) - 1 := ev_1
  refine cl_Si (As := [.long a0.toInt64, .long 0, .long v_1]) (rest := []) ⟨hx, hb, hml, hown, hts⟩ (mt_S_isWithin l dC dI ad T t a0.toInt64 0 v_1) (va_cwS 3 hts (uw_S uw_295 uw_296 uw_27 uw_297) rfl rfl rfl (by decide +kernel) ⟨Nat.le_of_ble_eq_true rfl, Nat.le_of_ble_eq_true rfl⟩) rfl hl.1 rfl (Nat.le_of_ble_eq_true rfl) de_S_step_13 ⟨Nat.zero_le _, Nat.zero_le _⟩ hK hN hP hD hS hA (fun r_2 _ H locs hw_2 hP hD hS => ?_)
  have hw_2 : bz r_2 (x_in a0.toInt64 0 v_1) := hw_2
  refine lv_if_ne (tgt := 29) hx hb de_S_step_16 (by decide) (fun c_3 => ?_) (fun c_3 => ?_)
  · skip
    have c_3 := bz_t hw_2 c_3
    exact absurd ((xi_th (by assumption) (by omega)).mp c_3) hb9
  · skip
    have c_3 := bz_f hw_2 c_3
    subst hQ
    subst hAe
    exact th_fin (text := "no such step") hx hb hlt hown (by decide) hts hX uw_561 uw_42 (by decide) th_o_IOB th_u_IOB hP0 (fun _ h => h) hP hD hS hA (hl.1.trans hml.symm) de_S_step_19 de_S_step_22 de_S_step_23 de_S_step_25 de_S_step_28 (by rw [Array.isEmpty_iff.mp (B.noHandlers (hts _ uw_687))]) (Nat.le_of_ble_eq_true rfl) (Nat.le_of_ble_eq_true rfl) (Nat.le_of_ble_eq_true rfl) (Nat.le_of_ble_eq_true rfl) hlocks
