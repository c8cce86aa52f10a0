set_option maxHeartbeats 4000000 in
set_option maxRecDepth 100000 in
theorem mt_M_weight (l : Launch) (dC : Nat → ClassId) (dI : Nat → Nat → Nat) (ad : Nat → Nat) (T : Nat → ClassId) (t : St) (a0 : Int64) (a1 : Int64) (a2 : Int64) (a3 : Int64) (hI : IvM t) (sz : Nat) : Met l yn_M_weight (.code yn_M_weight cd_M_weight 9 (some .int) :: UW) ({ frames := 2, cells := 0, slots := 0, locals := 46 } : Room) (va_Pc [.ref (ad 0), .long a0, .long a1, .long a2, .long a3] (Pw (dC, dI) CLS (TY T) (wM ad T t) sz)) (va_Qi (fun (r : Int32) (_ : Unit) => r = if okW a0 a1 a2 a3 then (if t.2.2.2 1 = 40 then 0 else nI (t.2.2.2 1)) else 0) (Bw (dC, dI) CLS (TY T) (fun _ : Unit => (wM ad T (if okW a0 a1 a2 a3 then (if t.2.2.2 1 = 40 then sN t 0 2 else yw a0 a1 a2 a3 t) else sN t 0 1))) (va_A (wM ad T t) sz)) (va_A (wM ad T t) sz)) 0 0 (va_A (wM ad T t) sz) := by
  refine Met.ofW (cc := cd_M_weight) (maxL := 9) (ret := (some .int)) (by decide) rfl ?_
  intro p e s m args below meth c s₁ B hml hv
  obtain ⟨rfl, hsz, hP, hK, hD0, hN⟩ := hv
  have hx := B.exec
  have hb := B.bytes
  have hr := B.returns
  have hts : ∀ w ∈ UW, w.before _ s = true := fun w h => atoms_spec (ws := .code yn_M_weight cd_M_weight 9 (some .int) :: UW) B.pre w (List.mem_cons_of_mem _ h)
  have hown : s.vm.findClass "StabilitySumsModel" = some m.cls := findClass_of_methodNamed B.named
  have hlocks := B.notSynchronized
  subst hsz
  have hD := hD0.self (sz := s.heap.size)
  generalize hAe : va_A (wM ad T t) s.heap.size = A at hD ⊢
  have hA : ∀ q : Nat, s.heap.size ≤ q → A q := fun q h => by rw [← hAe]; exact Or.inr h
  have hS : va_S A s.heap s.heap [] := va_S.rf
  have hl := lv_entry ([.ref (ad 0), .long a0, .long a1, .long a2, .long a3]) (n := 9) (Nat.le_of_ble_eq_true rfl)
  rw [lg_entry_eq]
  generalize (lg_sl ([.ref (ad 0), .long a0, .long a1, .long a2, .long a3]) ++ List.replicate (9 - (lg_sl ([.ref (ad 0), .long a0, .long a1, .long a2, .long a3])).length) Slot.unset).toArray = ls at hl ⊢
  have hl : lv_has ls 9 [(0, .ref (ad 0)), (1, .long a0), (3, .long a1), (5, .long a2), (7, .long a3)] := hl
  generalize hQ : MQ below _ _ s 0 0 A = Q
  obtain ⟨hI1, hI2, hI3, hI4, hI5⟩ := hI
  refine lv_lload_n hx hb de_M_weight_0 rfl (lv_at hl 1 rfl) ?_
  refine lv_ldc2 (v := (-100000)) hx hb hown (hts _ uw_865) de_M_weight_1 ?_
  refine lv_ldc2 (v := 100000) hx hb hown (hts _ uw_866) de_M_weight_4 ?_
  refine cl_Si (As := [.long a0, .long (-100000), .long 100000]) (rest := []) ⟨hx, hb, hml, hown, hts⟩ (mt_M_in l dC dI ad T t a0 (-100000) 100000) (va_cwS 3 hts (uw_S uw_842 uw_843 uw_36 uw_844) rfl rfl rfl (by decide +kernel) ⟨Nat.le_of_ble_eq_true rfl, Nat.le_of_ble_eq_true rfl⟩) rfl hl.1 rfl (Nat.le_of_ble_eq_true rfl) de_M_weight_7 ⟨Nat.zero_le _, Nat.zero_le _⟩ hK hN hP hD hS hA (fun r_1 _ H locs hw_1 hP hD hS => ?_)
  have hw_1 : bz r_1 (x_in a0 (-100000) 100000) := hw_1
  refine lv_if_eq (tgt := 42) hx hb de_M_weight_10 (by decide) (fun c_2 => ?_) (fun c_2 => ?_)
  · skip
    have c_2 := bz_f hw_1 c_2
    refine lv_aload_n hx hb de_M_weight_42 rfl (lv_at hl 0 rfl) ?_
    refine lv_iconst (v := 1) hx hb de_M_weight_43 (by decide) ?_
    refine cl_Vi (As := [.int 1]) (rest := []) ⟨hx, hb, hml, hown, hts⟩ (mt_M_fails l dC dI ad T t 1) (cwV 1 hts (uw_V uw_845 uw_847 uw_18 uw_36 uw_848) rfl rfl rfl (by decide +kernel) ⟨Nat.le_of_ble_eq_true rfl, Nat.le_of_ble_eq_true rfl⟩) (va_recv hK hP (ci := 9) (q0 := 0) rfl rfl) rfl hl.1 rfl (Nat.le_of_ble_eq_true rfl) de_M_weight_44 ⟨Nat.zero_le _, Nat.zero_le _⟩ hK hN hP hD hS hA (fun r_3 _ H locs hw_3 hP hD hS => ?_)
    have hw_3 : r_3 = 0 := hw_3
    obtain ⟨t_4, et_4⟩ : ∃ z, z = sN t 0 1 := ⟨_, rfl⟩
    have hP : va_P (dC, dI) CLS (wM ad T t_4) H := by rw [et_4]; exact hP
    have hD : va_D A (wM ad T t_4) := by rw [et_4]; exact hD
    have hfin : t_4 = if okW a0 a1 a2 a3 then (if t.2.2.2 1 = 40 then sN t 0 2 else yw a0 a1 a2 a3 t) else sN t 0 1 := by
      rw [if_neg (fun h => c_2 h.1)]
      assumption
    rw [hfin] at hP hD
    subst hQ
    have hpost : (r_3 : Int32) = if okW a0 a1 a2 a3 then (if t.2.2.2 1 = 40 then 0 else nI (t.2.2.2 1)) else 0 := by
      rw [if_neg (fun h => c_2 h.1)]
      assumption
    exact W.iret (v := r_3) hx hb hr (fun t9 ht hW => ⟨⟨r_3, (), rfl, hpost, by rw [ht]; exact hP, va_K.moved hW.alike hK, hD⟩, hS.F ht⟩) hS.2.2 de_M_weight_47
  · skip
    have c_2 := bz_t hw_1 c_2
    refine lv_lload_n hx hb de_M_weight_13 rfl (lv_at hl 1 rfl) ?_
    refine lv_lconst (v := 0) hx hb de_M_weight_14 (by decide) ?_
    refine rw_eq (tgt := 42) hx hb de_M_weight_15 de_M_weight_16 (by decide) (fun c_5 => ?_) (fun c_5 => ?_)
    · skip
      refine lv_aload_n hx hb de_M_weight_42 rfl (lv_at hl 0 rfl) ?_
      refine lv_iconst (v := 1) hx hb de_M_weight_43 (by decide) ?_
      refine cl_Vi (As := [.int 1]) (rest := []) ⟨hx, hb, hml, hown, hts⟩ (mt_M_fails l dC dI ad T t 1) (cwV 1 hts (uw_V uw_845 uw_847 uw_18 uw_36 uw_848) rfl rfl rfl (by decide +kernel) ⟨Nat.le_of_ble_eq_true rfl, Nat.le_of_ble_eq_true rfl⟩) (va_recv hK hP (ci := 9) (q0 := 0) rfl rfl) rfl hl.1 rfl (Nat.le_of_ble_eq_true rfl) de_M_weight_44 ⟨Nat.zero_le _, Nat.zero_le _⟩ hK hN hP hD hS hA (fun r_6 _ H locs hw_6 hP hD hS => ?_)
      have hw_6 : r_6 = 0 := hw_6
      obtain ⟨t_7, et_7⟩ : ∃ z, z = sN t 0 1 := ⟨_, rfl⟩
      have hP : va_P (dC, dI) CLS (wM ad T t_7) H := by rw [et_7]; exact hP
      have hD : va_D A (wM ad T t_7) := by rw [et_7]; exact hD
      have hfin : t_7 = if okW a0 a1 a2 a3 then (if t.2.2.2 1 = 40 then sN t 0 2 else yw a0 a1 a2 a3 t) else sN t 0 1 := by
        rw [if_neg (fun h => h.2.1 c_5)]
        assumption
      rw [hfin] at hP hD
      subst hQ
      have hpost : (r_6 : Int32) = if okW a0 a1 a2 a3 then (if t.2.2.2 1 = 40 then 0 else nI (t.2.2.2 1)) else 0 := by
        rw [if_neg (fun h => h.2.1 c_5)]
        assumption
      exact W.iret (v := r_6) hx hb hr (fun t9 ht hW => ⟨⟨r_6, (), rfl, hpost, by rw [ht]; exact hP, va_K.moved hW.alike hK, hD⟩, hS.F ht⟩) hS.2.2 de_M_weight_47
    · skip
      refine lv_lload_n hx hb de_M_weight_19 rfl (lv_at hl 2 rfl) ?_
      refine cl_Si (As := [.long a1]) (rest := []) ⟨hx, hb, hml, hown, hts⟩ (mt_M_isPlace l dC dI ad T t a1) (va_cwS 1 hts (uw_S uw_838 uw_839 uw_36 uw_840) rfl rfl rfl (by decide +kernel) ⟨Nat.le_of_ble_eq_true rfl, Nat.le_of_ble_eq_true rfl⟩) rfl hl.1 rfl (Nat.le_of_ble_eq_true rfl) de_M_weight_20 ⟨Nat.zero_le _, Nat.zero_le _⟩ hK hN hP hD hS hA (fun r_8 _ H locs hw_8 hP hD hS => ?_)
      have hw_8 : bz r_8 (x_pl a1) := hw_8
      refine lv_if_eq (tgt := 42) hx hb de_M_weight_23 (by decide) (fun c_9 => ?_) (fun c_9 => ?_)
      · skip
        have c_9 := bz_f hw_8 c_9
        refine lv_aload_n hx hb de_M_weight_42 rfl (lv_at hl 0 rfl) ?_
        refine lv_iconst (v := 1) hx hb de_M_weight_43 (by decide) ?_
        refine cl_Vi (As := [.int 1]) (rest := []) ⟨hx, hb, hml, hown, hts⟩ (mt_M_fails l dC dI ad T t 1) (cwV 1 hts (uw_V uw_845 uw_847 uw_18 uw_36 uw_848) rfl rfl rfl (by decide +kernel) ⟨Nat.le_of_ble_eq_true rfl, Nat.le_of_ble_eq_true rfl⟩) (va_recv hK hP (ci := 9) (q0 := 0) rfl rfl) rfl hl.1 rfl (Nat.le_of_ble_eq_true rfl) de_M_weight_44 ⟨Nat.zero_le _, Nat.zero_le _⟩ hK hN hP hD hS hA (fun r_10 _ H locs hw_10 hP hD hS => ?_)
        have hw_10 : r_10 = 0 := hw_10
        obtain ⟨t_11, et_11⟩ : ∃ z, z = sN t 0 1 := ⟨_, rfl⟩
        have hP : va_P (dC, dI) CLS (wM ad T t_11) H := by rw [et_11]; exact hP
        have hD : va_D A (wM ad T t_11) := by rw [et_11]; exact hD
        have hfin : t_11 = if okW a0 a1 a2 a3 then (if t.2.2.2 1 = 40 then sN t 0 2 else yw a0 a1 a2 a3 t) else sN t 0 1 := by
          rw [if_neg (fun h => c_9 h.2.2.1)]
          assumption
        rw [hfin] at hP hD
        subst hQ
        have hpost : (r_10 : Int32) = if okW a0 a1 a2 a3 then (if t.2.2.2 1 = 40 then 0 else nI (t.2.2.2 1)) else 0 := by
          rw [if_neg (fun h => c_9 h.2.2.1)]
          assumption
        exact W.iret (v := r_10) hx hb hr (fun t9 ht hW => ⟨⟨r_10, (), rfl, hpost, by rw [ht]; exact hP, va_K.moved hW.alike hK, hD⟩, hS.F ht⟩) hS.2.2 de_M_weight_47
      · skip
        have c_9 := bz_t hw_8 c_9
        refine lv_lload hx hb de_M_weight_26 (lv_at hl 3 rfl) ?_
        refine cl_Si (As := [.long a2]) (rest := []) ⟨hx, hb, hml, hown, hts⟩ (mt_M_isPlace l dC dI ad T t a2) (va_cwS 1 hts (uw_S uw_838 uw_839 uw_36 uw_840) rfl rfl rfl (by decide +kernel) ⟨Nat.le_of_ble_eq_true rfl, Nat.le_of_ble_eq_true rfl⟩) rfl hl.1 rfl (Nat.le_of_ble_eq_true rfl) de_M_weight_28 ⟨Nat.zero_le _, Nat.zero_le _⟩ hK hN hP hD hS hA (fun r_12 _ H locs hw_12 hP hD hS => ?_)
        have hw_12 : bz r_12 (x_pl a2) := hw_12
        refine lv_if_eq (tgt := 42) hx hb de_M_weight_31 (by decide) (fun c_13 => ?_) (fun c_13 => ?_)
        · skip
          have c_13 := bz_f hw_12 c_13
          refine lv_aload_n hx hb de_M_weight_42 rfl (lv_at hl 0 rfl) ?_
          refine lv_iconst (v := 1) hx hb de_M_weight_43 (by decide) ?_
          refine cl_Vi (As := [.int 1]) (rest := []) ⟨hx, hb, hml, hown, hts⟩ (mt_M_fails l dC dI ad T t 1) (cwV 1 hts (uw_V uw_845 uw_847 uw_18 uw_36 uw_848) rfl rfl rfl (by decide +kernel) ⟨Nat.le_of_ble_eq_true rfl, Nat.le_of_ble_eq_true rfl⟩) (va_recv hK hP (ci := 9) (q0 := 0) rfl rfl) rfl hl.1 rfl (Nat.le_of_ble_eq_true rfl) de_M_weight_44 ⟨Nat.zero_le _, Nat.zero_le _⟩ hK hN hP hD hS hA (fun r_14 _ H locs hw_14 hP hD hS => ?_)
          have hw_14 : r_14 = 0 := hw_14
          obtain ⟨t_15, et_15⟩ : ∃ z, z = sN t 0 1 := ⟨_, rfl⟩
          have hP : va_P (dC, dI) CLS (wM ad T t_15) H := by rw [et_15]; exact hP
          have hD : va_D A (wM ad T t_15) := by rw [et_15]; exact hD
          have hfin : t_15 = if okW a0 a1 a2 a3 then (if t.2.2.2 1 = 40 then sN t 0 2 else yw a0 a1 a2 a3 t) else sN t 0 1 := by
            rw [if_neg (fun h => c_13 h.2.2.2.1)]
            assumption
          rw [hfin] at hP hD
          subst hQ
          have hpost : (r_14 : Int32) = if okW a0 a1 a2 a3 then (if t.2.2.2 1 = 40 then 0 else nI (t.2.2.2 1)) else 0 := by
            rw [if_neg (fun h => c_13 h.2.2.2.1)]
            assumption
          exact W.iret (v := r_14) hx hb hr (fun t9 ht hW => ⟨⟨r_14, (), rfl, hpost, by rw [ht]; exact hP, va_K.moved hW.alike hK, hD⟩, hS.F ht⟩) hS.2.2 de_M_weight_47
        · skip
          have c_13 := bz_t hw_12 c_13
          refine lv_lload hx hb de_M_weight_34 (lv_at hl 4 rfl) ?_
          refine cl_Si (As := [.long a3]) (rest := []) ⟨hx, hb, hml, hown, hts⟩ (mt_M_isPlace l dC dI ad T t a3) (va_cwS 1 hts (uw_S uw_838 uw_839 uw_36 uw_840) rfl rfl rfl (by decide +kernel) ⟨Nat.le_of_ble_eq_true rfl, Nat.le_of_ble_eq_true rfl⟩) rfl hl.1 rfl (Nat.le_of_ble_eq_true rfl) de_M_weight_36 ⟨Nat.zero_le _, Nat.zero_le _⟩ hK hN hP hD hS hA (fun r_16 _ H locs hw_16 hP hD hS => ?_)
          have hw_16 : bz r_16 (x_pl a3) := hw_16
          refine lv_if_ne (tgt := 48) hx hb de_M_weight_39 (by decide) (fun c_17 => ?_) (fun c_17 => ?_)
          · skip
            have c_17 := bz_t hw_16 c_17
            refine lv_aload_n hx hb de_M_weight_48 rfl (lv_at hl 0 rfl) ?_
            refine va_get (D := (dC, dI)) (ci := 9) (v := .int (nI (t.2.2.2 1))) (C := "StabilitySumsModel") (T := TB_M) (N := 33) hx hb hts ui_M hown hK hP 0 rfl rfl 1 (by decide) (hts _ uw_697) (fun _ h9 => h9) rfl de_M_weight_49 ?_
            refine lv_bipush (v := 40) hx hb de_M_weight_52 (by decide) ?_
            refine lv_icmp_ne (tgt := 63) hx hb de_M_weight_54 (by decide) (fun c_18 => ?_) (fun c_18 => ?_)
            · skip
              have c_18 : ¬ ((t.2.2.2 1) = 40) := fun z => c_18 ((nI_eq (a := t.2.2.2 1) (b := 40) (by omega) (by omega)).mpr z)
              refine lv_aload_n hx hb de_M_weight_63 rfl (lv_at hl 0 rfl) ?_
              refine lv_iconst (v := 0) hx hb de_M_weight_64 (by decide) ?_
              refine va_put (D := (dC, dI)) (ci := 9) (v := .int 0) (ty := .int) (C := "StabilitySumsModel") (T := TB_M) (N := 33) hx hb hts ui_M tt_M tk_M nm_M hown hK hP hD hS 0 rfl rfl 0 (by decide) (hts _ uw_696) (fun _ h9 => h9) rfl (by decide +kernel) rfl rfl (Nat.le_of_ble_eq_true rfl) de_M_weight_65 (fun H locs hP hD hS => ?_)
              have hP : va_P (dC, dI) CLS (wM ad T (sN t 0 0)) H := hP
              have hD : va_D A (wM ad T (sN t 0 0)) := hD
              refine lv_aload_n hx hb de_M_weight_68 rfl (lv_at hl 0 rfl) ?_
              refine va_get (D := (dC, dI)) (ci := 9) (v := .ref (ad 1)) (C := "StabilitySumsModel") (T := TB_M) (N := 33) hx hb hts ui_M hown hK hP 0 rfl rfl 2 (by decide) (hts _ uw_698) (fun _ h9 => h9) rfl de_M_weight_69 ?_
              refine lv_aload_n hx hb de_M_weight_72 rfl (lv_at hl 0 rfl) ?_
              refine va_get (D := (dC, dI)) (ci := 9) (v := .int (nI (t.2.2.2 1))) (C := "StabilitySumsModel") (T := TB_M) (N := 33) hx hb hts ui_M hown hK hP 0 rfl rfl 1 (by decide) (hts _ uw_697) (fun _ h9 => h9) rfl de_M_weight_73 ?_
              refine lv_lload_n hx hb de_M_weight_76 rfl (lv_at hl 1 rfl) ?_
              refine rw_last (f := t.1 0) (j := (t.2.2.2 1)) (x := a0) hx hb hK hP hD hS 1 0 rfl rfl (by omega) (by decide) de_M_weight_77 (fun H locs hP hD hS => ?_)
              have hP : va_P (dC, dI) CLS (wM ad T (sL (sN t 0 0) 0 (t.2.2.2 1) a0)) H := hP
              have hD : va_D A (wM ad T (sL (sN t 0 0) 0 (t.2.2.2 1) a0)) := hD
              refine lv_aload_n hx hb de_M_weight_78 rfl (lv_at hl 0 rfl) ?_
              refine va_get (D := (dC, dI)) (ci := 9) (v := .ref (ad 2)) (C := "StabilitySumsModel") (T := TB_M) (N := 33) hx hb hts ui_M hown hK hP 0 rfl rfl 3 (by decide) (hts _ uw_699) (fun _ h9 => h9) rfl de_M_weight_79 ?_
              refine lv_aload_n hx hb de_M_weight_82 rfl (lv_at hl 0 rfl) ?_
              refine va_get (D := (dC, dI)) (ci := 9) (v := .int (nI (t.2.2.2 1))) (C := "StabilitySumsModel") (T := TB_M) (N := 33) hx hb hts ui_M hown hK hP 0 rfl rfl 1 (by decide) (hts _ uw_697) (fun _ h9 => h9) rfl de_M_weight_83 ?_
              refine lv_lload_n hx hb de_M_weight_86 rfl (lv_at hl 2 rfl) ?_
              refine rw_last (f := t.1 1) (j := (t.2.2.2 1)) (x := a1) hx hb hK hP hD hS 2 0 rfl rfl (by omega) (by decide) de_M_weight_87 (fun H locs hP hD hS => ?_)
              have hP : va_P (dC, dI) CLS (wM ad T (sL (sL (sN t 0 0) 0 (t.2.2.2 1) a0) 1 (t.2.2.2 1) a1)) H := hP
              have hD : va_D A (wM ad T (sL (sL (sN t 0 0) 0 (t.2.2.2 1) a0) 1 (t.2.2.2 1) a1)) := hD
              refine lv_aload_n hx hb de_M_weight_88 rfl (lv_at hl 0 rfl) ?_
              refine va_get (D := (dC, dI)) (ci := 9) (v := .ref (ad 3)) (C := "StabilitySumsModel") (T := TB_M) (N := 33) hx hb hts ui_M hown hK hP 0 rfl rfl 4 (by decide) (hts _ uw_700) (fun _ h9 => h9) rfl de_M_weight_89 ?_
              refine lv_aload_n hx hb de_M_weight_92 rfl (lv_at hl 0 rfl) ?_
              refine va_get (D := (dC, dI)) (ci := 9) (v := .int (nI (t.2.2.2 1))) (C := "StabilitySumsModel") (T := TB_M) (N := 33) hx hb hts ui_M hown hK hP 0 rfl rfl 1 (by decide) (hts _ uw_697) (fun _ h9 => h9) rfl de_M_weight_93 ?_
              refine lv_lload hx hb de_M_weight_96 (lv_at hl 3 rfl) ?_
              refine rw_last (f := t.1 2) (j := (t.2.2.2 1)) (x := a2) hx hb hK hP hD hS 3 0 rfl rfl (by omega) (by decide) de_M_weight_98 (fun H locs hP hD hS => ?_)
              have hP : va_P (dC, dI) CLS (wM ad T (sL (sL (sL (sN t 0 0) 0 (t.2.2.2 1) a0) 1 (t.2.2.2 1) a1) 2 (t.2.2.2 1) a2)) H := hP
              have hD : va_D A (wM ad T (sL (sL (sL (sN t 0 0) 0 (t.2.2.2 1) a0) 1 (t.2.2.2 1) a1) 2 (t.2.2.2 1) a2)) := hD
              refine lv_aload_n hx hb de_M_weight_99 rfl (lv_at hl 0 rfl) ?_
              refine va_get (D := (dC, dI)) (ci := 9) (v := .ref (ad 4)) (C := "StabilitySumsModel") (T := TB_M) (N := 33) hx hb hts ui_M hown hK hP 0 rfl rfl 5 (by decide) (hts _ uw_701) (fun _ h9 => h9) rfl de_M_weight_100 ?_
              refine lv_aload_n hx hb de_M_weight_103 rfl (lv_at hl 0 rfl) ?_
              refine va_get (D := (dC, dI)) (ci := 9) (v := .int (nI (t.2.2.2 1))) (C := "StabilitySumsModel") (T := TB_M) (N := 33) hx hb hts ui_M hown hK hP 0 rfl rfl 1 (by decide) (hts _ uw_697) (fun _ h9 => h9) rfl de_M_weight_104 ?_
              refine lv_lload hx hb de_M_weight_107 (lv_at hl 4 rfl) ?_
              refine rw_last (f := t.1 3) (j := (t.2.2.2 1)) (x := a3) hx hb hK hP hD hS 4 0 rfl rfl (by omega) (by decide) de_M_weight_109 (fun H locs hP hD hS => ?_)
              have hP : va_P (dC, dI) CLS (wM ad T (sL (sL (sL (sL (sN t 0 0) 0 (t.2.2.2 1) a0) 1 (t.2.2.2 1) a1) 2 (t.2.2.2 1) a2) 3 (t.2.2.2 1) a3)) H := hP
              have hD : va_D A (wM ad T (sL (sL (sL (sL (sN t 0 0) 0 (t.2.2.2 1) a0) 1 (t.2.2.2 1) a1) 2 (t.2.2.2 1) a2) 3 (t.2.2.2 1) a3)) := hD
              refine lv_aload_n hx hb de_M_weight_110 rfl (lv_at hl 0 rfl) ?_
              refine lv_dup hx hb de_M_weight_111 rfl ?_
              refine va_get (D := (dC, dI)) (ci := 9) (v := .int (nI (t.2.2.2 1))) (C := "StabilitySumsModel") (T := TB_M) (N := 33) hx hb hts ui_M hown hK hP 0 rfl rfl 1 (by decide) (hts _ uw_697) (fun _ h9 => h9) rfl de_M_weight_112 ?_
              refine lv_iconst (v := 1) hx hb de_M_weight_115 (by decide) ?_
              refine lv_iadd hx hb de_M_weight_116 ?_
              refine lv_topi (fun v_19 ev_19 => ?_)
              have ev_19 : v_19 = (nI ((t.2.2.2 1) + 1)) := ev_19.trans (nI_add (t.2.2.2 1) 1)
              subst ev_19
              refine va_put (D := (dC, dI)) (ci := 9) (v := .int (nI ((t.2.2.2 1) + 1))) (ty := .int) (C := "StabilitySumsModel") (T := TB_M) (N := 33) hx hb hts ui_M tt_M tk_M nm_M hown hK hP hD hS 0 rfl rfl 1 (by decide) (hts _ uw_697) (fun _ h9 => h9) rfl (by decide +kernel) rfl rfl (Nat.le_of_ble_eq_true rfl) de_M_weight_117 (fun H locs hP hD hS => ?_)
              have hP : va_P (dC, dI) CLS (wM ad T (sN (sL (sL (sL (sL (sN t 0 0) 0 (t.2.2.2 1) a0) 1 (t.2.2.2 1) a1) 2 (t.2.2.2 1) a2) 3 (t.2.2.2 1) a3) 1 ((t.2.2.2 1) + 1))) H := hP
              have hD : va_D A (wM ad T (sN (sL (sL (sL (sL (sN t 0 0) 0 (t.2.2.2 1) a0) 1 (t.2.2.2 1) a1) 2 (t.2.2.2 1) a2) 3 (t.2.2.2 1) a3) 1 ((t.2.2.2 1) + 1))) := hD
              refine lv_aload_n hx hb de_M_weight_120 rfl (lv_at hl 0 rfl) ?_
              refine va_get (D := (dC, dI)) (ci := 9) (v := .int (nI ((t.2.2.2 1) + 1))) (C := "StabilitySumsModel") (T := TB_M) (N := 33) hx hb hts ui_M hown hK hP 0 rfl rfl 1 (by decide) (hts _ uw_697) (fun _ h9 => h9) rfl de_M_weight_121 ?_
              refine lv_iconst (v := 1) hx hb de_M_weight_124 (by decide) ?_
              refine lv_isub hx hb de_M_weight_125 ?_
              refine lv_topi (fun v_20 ev_20 => ?_)
              have ev_20 : v_20 = (nI (((t.2.2.2 1) + 1) - 1)) := ev_20.trans (pk_sub (a := (t.2.2.2 1) + 1) (b := 1) (by omega))
              subst ev_20
              have hfin : (sN (sL (sL (sL (sL (sN t 0 0) 0 (t.2.2.2 1) a0) 1 (t.2.2.2 1) a1) 2 (t.2.2.2 1) a2) 3 (t.2.2.2 1) a3) 1 ((t.2.2.2 1) + 1)) = if okW a0 a1 a2 a3 then (if t.2.2.2 1 = 40 then sN t 0 2 else yw a0 a1 a2 a3 t) else sN t 0 1 := by
                rw [if_pos ⟨c_2, c_5, c_9, c_13, c_17⟩, if_neg c_18]
                first | done | rfl
              rw [hfin] at hP hD
              subst hQ
              have hpost : ((nI (((t.2.2.2 1) + 1) - 1)) : Int32) = if okW a0 a1 a2 a3 then (if t.2.2.2 1 = 40 then 0 else nI (t.2.2.2 1)) else 0 := by
                rw [if_pos ⟨c_2, c_5, c_9, c_13, c_17⟩, if_neg c_18]
                first | done | rfl
              exact W.iret (v := (nI (((t.2.2.2 1) + 1) - 1))) hx hb hr (fun t9 ht hW => ⟨⟨(nI (((t.2.2.2 1) + 1) - 1)), (), rfl, hpost, by rw [ht]; exact hP, va_K.moved hW.alike hK, hD⟩, hS.F ht⟩) hS.2.2 de_M_weight_126
            · skip
              have c_18 : (t.2.2.2 1) = 40 := (nI_eq (a := t.2.2.2 1) (b := 40) (by omega) (by omega)).mp c_18
              refine lv_aload_n hx hb de_M_weight_57 rfl (lv_at hl 0 rfl) ?_
              refine lv_iconst (v := 2) hx hb de_M_weight_58 (by decide) ?_
              refine cl_Vi (As := [.int 2]) (rest := []) ⟨hx, hb, hml, hown, hts⟩ (mt_M_fails l dC dI ad T t 2) (cwV 1 hts (uw_V uw_845 uw_847 uw_18 uw_36 uw_848) rfl rfl rfl (by decide +kernel) ⟨Nat.le_of_ble_eq_true rfl, Nat.le_of_ble_eq_true rfl⟩) (va_recv hK hP (ci := 9) (q0 := 0) rfl rfl) rfl hl.1 rfl (Nat.le_of_ble_eq_true rfl) de_M_weight_59 ⟨Nat.zero_le _, Nat.zero_le _⟩ hK hN hP hD hS hA (fun r_21 _ H locs hw_21 hP hD hS => ?_)
              have hw_21 : r_21 = 0 := hw_21
              obtain ⟨t_22, et_22⟩ : ∃ z, z = sN t 0 2 := ⟨_, rfl⟩
              have hP : va_P (dC, dI) CLS (wM ad T t_22) H := by rw [et_22]; exact hP
              have hD : va_D A (wM ad T t_22) := by rw [et_22]; exact hD
              have hfin : t_22 = if okW a0 a1 a2 a3 then (if t.2.2.2 1 = 40 then sN t 0 2 else yw a0 a1 a2 a3 t) else sN t 0 1 := by
                rw [if_pos ⟨c_2, c_5, c_9, c_13, c_17⟩, if_pos c_18]
                assumption
              rw [hfin] at hP hD
              subst hQ
              have hpost : (r_21 : Int32) = if okW a0 a1 a2 a3 then (if t.2.2.2 1 = 40 then 0 else nI (t.2.2.2 1)) else 0 := by
                rw [if_pos ⟨c_2, c_5, c_9, c_13, c_17⟩, if_pos c_18]
                assumption
              exact W.iret (v := r_21) hx hb hr (fun t9 ht hW => ⟨⟨r_21, (), rfl, hpost, by rw [ht]; exact hP, va_K.moved hW.alike hK, hD⟩, hS.F ht⟩) hS.2.2 de_M_weight_62
          · skip
            have c_17 := bz_f hw_16 c_17
            refine lv_aload_n hx hb de_M_weight_42 rfl (lv_at hl 0 rfl) ?_
            refine lv_iconst (v := 1) hx hb de_M_weight_43 (by decide) ?_
            refine cl_Vi (As := [.int 1]) (rest := []) ⟨hx, hb, hml, hown, hts⟩ (mt_M_fails l dC dI ad T t 1) (cwV 1 hts (uw_V uw_845 uw_847 uw_18 uw_36 uw_848) rfl rfl rfl (by decide +kernel) ⟨Nat.le_of_ble_eq_true rfl, Nat.le_of_ble_eq_true rfl⟩) (va_recv hK hP (ci := 9) (q0 := 0) rfl rfl) rfl hl.1 rfl (Nat.le_of_ble_eq_true rfl) de_M_weight_44 ⟨Nat.zero_le _, Nat.zero_le _⟩ hK hN hP hD hS hA (fun r_23 _ H locs hw_23 hP hD hS => ?_)
            have hw_23 : r_23 = 0 := hw_23
            obtain ⟨t_24, et_24⟩ : ∃ z, z = sN t 0 1 := ⟨_, rfl⟩
            have hP : va_P (dC, dI) CLS (wM ad T t_24) H := by rw [et_24]; exact hP
            have hD : va_D A (wM ad T t_24) := by rw [et_24]; exact hD
            have hfin : t_24 = if okW a0 a1 a2 a3 then (if t.2.2.2 1 = 40 then sN t 0 2 else yw a0 a1 a2 a3 t) else sN t 0 1 := by
              rw [if_neg (fun h => c_17 h.2.2.2.2)]
              assumption
            rw [hfin] at hP hD
            subst hQ
            have hpost : (r_23 : Int32) = if okW a0 a1 a2 a3 then (if t.2.2.2 1 = 40 then 0 else nI (t.2.2.2 1)) else 0 := by
              rw [if_neg (fun h => c_17 h.2.2.2.2)]
              assumption
            exact W.iret (v := r_23) hx hb hr (fun t9 ht hW => ⟨⟨r_23, (), rfl, hpost, by rw [ht]; exact hP, va_K.moved hW.alike hK, hD⟩, hS.F ht⟩) hS.2.2 de_M_weight_47
set_option maxHeartbeats 4000000 in
set_option maxRecDepth 100000 in
theorem mt_M_tank (l : Launch) (dC : Nat → ClassId) (dI : Nat → Nat → Nat) (ad : Nat → Nat) (T : Nat → ClassId) (t : St) (a0 : Int64) (a1 : Int64) (a2 : Int64) (a3 : Int64) (a4 : Int64) (hI : IvM t) (sz : Nat) : Met l yn_M_tank (.code yn_M_tank cd_M_tank 11 (some .int) :: UW) ({ frames := 2, cells := 0, slots := 0, locals := 46 } : Room) (va_Pc [.ref (ad 0), .long a0, .long a1, .long a2, .long a3, .long a4] (Pw (dC, dI) CLS (TY T) (wM ad T t) sz)) (va_Qi (fun (r : Int32) (_ : Unit) => r = if okT a0 a1 a2 a3 a4 then (if t.2.2.2 2 = 4 then 0 else nI (t.2.2.2 2)) else 0) (Bw (dC, dI) CLS (TY T) (fun _ : Unit => (wM ad T (if okT a0 a1 a2 a3 a4 then (if t.2.2.2 2 = 4 then sN t 0 2 else yt a0 a1 a2 a3 a4 t) else sN t 0 1))) (va_A (wM ad T t) sz)) (va_A (wM ad T t) sz)) 0 0 (va_A (wM ad T t) sz) := by
  refine Met.ofW (cc := cd_M_tank) (maxL := 11) (ret := (some .int)) (by decide) rfl ?_
  intro p e s m args below meth c s₁ B hml hv
  obtain ⟨rfl, hsz, hP, hK, hD0, hN⟩ := hv
  have hx := B.exec
  have hb := B.bytes
  have hr := B.returns
  have hts : ∀ w ∈ UW, w.before _ s = true := fun w h => atoms_spec (ws := .code yn_M_tank cd_M_tank 11 (some .int) :: UW) B.pre w (List.mem_cons_of_mem _ h)
  have hown : s.vm.findClass "StabilitySumsModel" = some m.cls := findClass_of_methodNamed B.named
  have hlocks := B.notSynchronized
  subst hsz
  have hD := hD0.self (sz := s.heap.size)
  generalize hAe : va_A (wM ad T t) s.heap.size = A at hD ⊢
  have hA : ∀ q : Nat, s.heap.size ≤ q → A q := fun q h => by rw [← hAe]; exact Or.inr h
  have hS : va_S A s.heap s.heap [] := va_S.rf
  have hl := lv_entry ([.ref (ad 0), .long a0, .long a1, .long a2, .long a3, .long a4]) (n := 11) (Nat.le_of_ble_eq_true rfl)
  rw [lg_entry_eq]
  generalize (lg_sl ([.ref (ad 0), .long a0, .long a1, .long a2, .long a3, .long a4]) ++ List.replicate (11 - (lg_sl ([.ref (ad 0), .long a0, .long a1, .long a2, .long a3, .long a4])).length) Slot.unset).toArray = ls at hl ⊢
  have hl : lv_has ls 11 [(0, .ref (ad 0)), (1, .long a0), (3, .long a1), (5, .long a2), (7, .long a3), (9, .long a4)] := hl
  generalize hQ : MQ below _ _ s 0 0 A = Q
  obtain ⟨hI1, hI2, hI3, hI4, hI5⟩ := hI
  refine lv_lload_n hx hb de_M_tank_0 rfl (lv_at hl 1 rfl) ?_
  refine lv_ldc2 (v := 4) hx hb hown (hts _ uw_871) de_M_tank_1 ?_
  refine lv_ldc2 (v := 40000) hx hb hown (hts _ uw_872) de_M_tank_4 ?_
  refine cl_Si (As := [.long a0, .long 4, .long 40000]) (rest := []) ⟨hx, hb, hml, hown, hts⟩ (mt_M_in l dC dI ad T t a0 4 40000) (va_cwS 3 hts (uw_S uw_842 uw_843 uw_36 uw_844) rfl rfl rfl (by decide +kernel) ⟨Nat.le_of_ble_eq_true rfl, Nat.le_of_ble_eq_true rfl⟩) rfl hl.1 rfl (Nat.le_of_ble_eq_true rfl) de_M_tank_7 ⟨Nat.zero_le _, Nat.zero_le _⟩ hK hN hP hD hS hA (fun r_1 _ H locs hw_1 hP hD hS => ?_)
  have hw_1 : bz r_1 (x_in a0 4 40000) := hw_1
  refine lv_if_eq (tgt := 58) hx hb de_M_tank_10 (by decide) (fun c_2 => ?_) (fun c_2 => ?_)
  · skip
    have c_2 := bz_f hw_1 c_2
    refine lv_aload_n hx hb de_M_tank_58 rfl (lv_at hl 0 rfl) ?_
    refine lv_iconst (v := 1) hx hb de_M_tank_59 (by decide) ?_
    refine cl_Vi (As := [.int 1]) (rest := []) ⟨hx, hb, hml, hown, hts⟩ (mt_M_fails l dC dI ad T t 1) (cwV 1 hts (uw_V uw_845 uw_847 uw_18 uw_36 uw_848) rfl rfl rfl (by decide +kernel) ⟨Nat.le_of_ble_eq_true rfl, Nat.le_of_ble_eq_true rfl⟩) (va_recv hK hP (ci := 9) (q0 := 0) rfl rfl) rfl hl.1 rfl (Nat.le_of_ble_eq_true rfl) de_M_tank_60 ⟨Nat.zero_le _, Nat.zero_le _⟩ hK hN hP hD hS hA (fun r_3 _ H locs hw_3 hP hD hS => ?_)
    have hw_3 : r_3 = 0 := hw_3
    obtain ⟨t_4, et_4⟩ : ∃ z, z = sN t 0 1 := ⟨_, rfl⟩
    have hP : va_P (dC, dI) CLS (wM ad T t_4) H := by rw [et_4]; exact hP
    have hD : va_D A (wM ad T t_4) := by rw [et_4]; exact hD
    have hfin : t_4 = if okT a0 a1 a2 a3 a4 then (if t.2.2.2 2 = 4 then sN t 0 2 else yt a0 a1 a2 a3 a4 t) else sN t 0 1 := by
      rw [if_neg (fun h => c_2 h.1)]
      assumption
    rw [hfin] at hP hD
    subst hQ
    have hpost : (r_3 : Int32) = if okT a0 a1 a2 a3 a4 then (if t.2.2.2 2 = 4 then 0 else nI (t.2.2.2 2)) else 0 := by
      rw [if_neg (fun h => c_2 h.1)]
      assumption
    exact W.iret (v := r_3) hx hb hr (fun t9 ht hW => ⟨⟨r_3, (), rfl, hpost, by rw [ht]; exact hP, va_K.moved hW.alike hK, hD⟩, hS.F ht⟩) hS.2.2 de_M_tank_63
  · skip
    have c_2 := bz_t hw_1 c_2
    refine lv_lload_n hx hb de_M_tank_13 rfl (lv_at hl 1 rfl) ?_
    refine lv_ldc2 (v := 4) hx hb hown (hts _ uw_871) de_M_tank_14 ?_
    refine lv_lrem hx hb de_M_tank_17 (by decide) ?_
    refine lv_topl (fun v_5 ev_5 => ?_)
    have ev_5 : v_5 = a0 - a0 / 4 * 4 := ev_5
    refine lv_lconst (v := 0) hx hb de_M_tank_18 (by decide) ?_
    refine rw_ne (tgt := 58) hx hb de_M_tank_19 de_M_tank_20 (by decide) (fun c_6 => ?_) (fun c_6 => ?_)
    · skip
      refine lv_aload_n hx hb de_M_tank_58 rfl (lv_at hl 0 rfl) ?_
      refine lv_iconst (v := 1) hx hb de_M_tank_59 (by decide) ?_
      refine cl_Vi (As := [.int 1]) (rest := []) ⟨hx, hb, hml, hown, hts⟩ (mt_M_fails l dC dI ad T t 1) (cwV 1 hts (uw_V uw_845 uw_847 uw_18 uw_36 uw_848) rfl rfl rfl (by decide +kernel) ⟨Nat.le_of_ble_eq_true rfl, Nat.le_of_ble_eq_true rfl⟩) (va_recv hK hP (ci := 9) (q0 := 0) rfl rfl) rfl hl.1 rfl (Nat.le_of_ble_eq_true rfl) de_M_tank_60 ⟨Nat.zero_le _, Nat.zero_le _⟩ hK hN hP hD hS hA (fun r_7 _ H locs hw_7 hP hD hS => ?_)
      have hw_7 : r_7 = 0 := hw_7
      obtain ⟨t_8, et_8⟩ : ∃ z, z = sN t 0 1 := ⟨_, rfl⟩
      have hP : va_P (dC, dI) CLS (wM ad T t_8) H := by rw [et_8]; exact hP
      have hD : va_D A (wM ad T t_8) := by rw [et_8]; exact hD
      have hfin : t_8 = if okT a0 a1 a2 a3 a4 then (if t.2.2.2 2 = 4 then sN t 0 2 else yt a0 a1 a2 a3 a4 t) else sN t 0 1 := by
        subst ev_5
        rw [if_neg (fun h => c_6 h.2.1)]
        assumption
      rw [hfin] at hP hD
      subst hQ
      have hpost : (r_7 : Int32) = if okT a0 a1 a2 a3 a4 then (if t.2.2.2 2 = 4 then 0 else nI (t.2.2.2 2)) else 0 := by
        subst ev_5
        rw [if_neg (fun h => c_6 h.2.1)]
        assumption
      exact W.iret (v := r_7) hx hb hr (fun t9 ht hW => ⟨⟨r_7, (), rfl, hpost, by rw [ht]; exact hP, va_K.moved hW.alike hK, hD⟩, hS.F ht⟩) hS.2.2 de_M_tank_63
    · skip
      refine lv_lload_n hx hb de_M_tank_23 rfl (lv_at hl 2 rfl) ?_
      refine lv_lconst (v := 0) hx hb de_M_tank_24 (by decide) ?_
      refine lv_ldc2 (v := 1000000000) hx hb hown (hts _ uw_873) de_M_tank_25 ?_
      refine cl_Si (As := [.long a1, .long 0, .long 1000000000]) (rest := []) ⟨hx, hb, hml, hown, hts⟩ (mt_M_in l dC dI ad T t a1 0 1000000000) (va_cwS 3 hts (uw_S uw_842 uw_843 uw_36 uw_844) rfl rfl rfl (by decide +kernel) ⟨Nat.le_of_ble_eq_true rfl, Nat.le_of_ble_eq_true rfl⟩) rfl hl.1 rfl (Nat.le_of_ble_eq_true rfl) de_M_tank_28 ⟨Nat.zero_le _, Nat.zero_le _⟩ hK hN hP hD hS hA (fun r_9 _ H locs hw_9 hP hD hS => ?_)
      have hw_9 : bz r_9 (x_in a1 0 1000000000) := hw_9
      refine lv_if_eq (tgt := 58) hx hb de_M_tank_31 (by decide) (fun c_10 => ?_) (fun c_10 => ?_)
      · skip
        have c_10 := bz_f hw_9 c_10
        refine lv_aload_n hx hb de_M_tank_58 rfl (lv_at hl 0 rfl) ?_
        refine lv_iconst (v := 1) hx hb de_M_tank_59 (by decide) ?_
        refine cl_Vi (As := [.int 1]) (rest := []) ⟨hx, hb, hml, hown, hts⟩ (mt_M_fails l dC dI ad T t 1) (cwV 1 hts (uw_V uw_845 uw_847 uw_18 uw_36 uw_848) rfl rfl rfl (by decide +kernel) ⟨Nat.le_of_ble_eq_true rfl, Nat.le_of_ble_eq_true rfl⟩) (va_recv hK hP (ci := 9) (q0 := 0) rfl rfl) rfl hl.1 rfl (Nat.le_of_ble_eq_true rfl) de_M_tank_60 ⟨Nat.zero_le _, Nat.zero_le _⟩ hK hN hP hD hS hA (fun r_11 _ H locs hw_11 hP hD hS => ?_)
        have hw_11 : r_11 = 0 := hw_11
        obtain ⟨t_12, et_12⟩ : ∃ z, z = sN t 0 1 := ⟨_, rfl⟩
        have hP : va_P (dC, dI) CLS (wM ad T t_12) H := by rw [et_12]; exact hP
        have hD : va_D A (wM ad T t_12) := by rw [et_12]; exact hD
        have hfin : t_12 = if okT a0 a1 a2 a3 a4 then (if t.2.2.2 2 = 4 then sN t 0 2 else yt a0 a1 a2 a3 a4 t) else sN t 0 1 := by
          subst ev_5
          rw [if_neg (fun h => c_10 h.2.2.1)]
          assumption
        rw [hfin] at hP hD
        subst hQ
        have hpost : (r_11 : Int32) = if okT a0 a1 a2 a3 a4 then (if t.2.2.2 2 = 4 then 0 else nI (t.2.2.2 2)) else 0 := by
          subst ev_5
          rw [if_neg (fun h => c_10 h.2.2.1)]
          assumption
        exact W.iret (v := r_11) hx hb hr (fun t9 ht hW => ⟨⟨r_11, (), rfl, hpost, by rw [ht]; exact hP, va_K.moved hW.alike hK, hD⟩, hS.F ht⟩) hS.2.2 de_M_tank_63
      · skip
        have c_10 := bz_t hw_9 c_10
        refine lv_lload hx hb de_M_tank_34 (lv_at hl 3 rfl) ?_
        refine cl_Si (As := [.long a2]) (rest := []) ⟨hx, hb, hml, hown, hts⟩ (mt_M_isPlace l dC dI ad T t a2) (va_cwS 1 hts (uw_S uw_838 uw_839 uw_36 uw_840) rfl rfl rfl (by decide +kernel) ⟨Nat.le_of_ble_eq_true rfl, Nat.le_of_ble_eq_true rfl⟩) rfl hl.1 rfl (Nat.le_of_ble_eq_true rfl) de_M_tank_36 ⟨Nat.zero_le _, Nat.zero_le _⟩ hK hN hP hD hS hA (fun r_13 _ H locs hw_13 hP hD hS => ?_)
        have hw_13 : bz r_13 (x_pl a2) := hw_13
        refine lv_if_eq (tgt := 58) hx hb de_M_tank_39 (by decide) (fun c_14 => ?_) (fun c_14 => ?_)
        · skip
          have c_14 := bz_f hw_13 c_14
          refine lv_aload_n hx hb de_M_tank_58 rfl (lv_at hl 0 rfl) ?_
          refine lv_iconst (v := 1) hx hb de_M_tank_59 (by decide) ?_
          refine cl_Vi (As := [.int 1]) (rest := []) ⟨hx, hb, hml, hown, hts⟩ (mt_M_fails l dC dI ad T t 1) (cwV 1 hts (uw_V uw_845 uw_847 uw_18 uw_36 uw_848) rfl rfl rfl (by decide +kernel) ⟨Nat.le_of_ble_eq_true rfl, Nat.le_of_ble_eq_true rfl⟩) (va_recv hK hP (ci := 9) (q0 := 0) rfl rfl) rfl hl.1 rfl (Nat.le_of_ble_eq_true rfl) de_M_tank_60 ⟨Nat.zero_le _, Nat.zero_le _⟩ hK hN hP hD hS hA (fun r_15 _ H locs hw_15 hP hD hS => ?_)
          have hw_15 : r_15 = 0 := hw_15
          obtain ⟨t_16, et_16⟩ : ∃ z, z = sN t 0 1 := ⟨_, rfl⟩
          have hP : va_P (dC, dI) CLS (wM ad T t_16) H := by rw [et_16]; exact hP
          have hD : va_D A (wM ad T t_16) := by rw [et_16]; exact hD
          have hfin : t_16 = if okT a0 a1 a2 a3 a4 then (if t.2.2.2 2 = 4 then sN t 0 2 else yt a0 a1 a2 a3 a4 t) else sN t 0 1 := by
            subst ev_5
            rw [if_neg (fun h => c_14 h.2.2.2.1)]
            assumption
          rw [hfin] at hP hD
          subst hQ
          have hpost : (r_15 : Int32) = if okT a0 a1 a2 a3 a4 then (if t.2.2.2 2 = 4 then 0 else nI (t.2.2.2 2)) else 0 := by
            subst ev_5
            rw [if_neg (fun h => c_14 h.2.2.2.1)]
            assumption
          exact W.iret (v := r_15) hx hb hr (fun t9 ht hW => ⟨⟨r_15, (), rfl, hpost, by rw [ht]; exact hP, va_K.moved hW.alike hK, hD⟩, hS.F ht⟩) hS.2.2 de_M_tank_63
        · skip
          have c_14 := bz_t hw_13 c_14
          refine lv_lload hx hb de_M_tank_42 (lv_at hl 4 rfl) ?_
          refine cl_Si (As := [.long a3]) (rest := []) ⟨hx, hb, hml, hown, hts⟩ (mt_M_isPlace l dC dI ad T t a3) (va_cwS 1 hts (uw_S uw_838 uw_839 uw_36 uw_840) rfl rfl rfl (by decide +kernel) ⟨Nat.le_of_ble_eq_true rfl, Nat.le_of_ble_eq_true rfl⟩) rfl hl.1 rfl (Nat.le_of_ble_eq_true rfl) de_M_tank_44 ⟨Nat.zero_le _, Nat.zero_le _⟩ hK hN hP hD hS hA (fun r_17 _ H locs hw_17 hP hD hS => ?_)
          have hw_17 : bz r_17 (x_pl a3) := hw_17
          refine lv_if_eq (tgt := 58) hx hb de_M_tank_47 (by decide) (fun c_18 => ?_) (fun c_18 => ?_)
          · skip
            have c_18 := bz_f hw_17 c_18
            refine lv_aload_n hx hb de_M_tank_58 rfl (lv_at hl 0 rfl) ?_
            refine lv_iconst (v := 1) hx hb de_M_tank_59 (by decide) ?_
            refine cl_Vi (As := [.int 1]) (rest := []) ⟨hx, hb, hml, hown, hts⟩ (mt_M_fails l dC dI ad T t 1) (cwV 1 hts (uw_V uw_845 uw_847 uw_18 uw_36 uw_848) rfl rfl rfl (by decide +kernel) ⟨Nat.le_of_ble_eq_true rfl, Nat.le_of_ble_eq_true rfl⟩) (va_recv hK hP (ci := 9) (q0 := 0) rfl rfl) rfl hl.1 rfl (Nat.le_of_ble_eq_true rfl) de_M_tank_60 ⟨Nat.zero_le _, Nat.zero_le _⟩ hK hN hP hD hS hA (fun r_19 _ H locs hw_19 hP hD hS => ?_)
            have hw_19 : r_19 = 0 := hw_19
            obtain ⟨t_20, et_20⟩ : ∃ z, z = sN t 0 1 := ⟨_, rfl⟩
            have hP : va_P (dC, dI) CLS (wM ad T t_20) H := by rw [et_20]; exact hP
            have hD : va_D A (wM ad T t_20) := by rw [et_20]; exact hD
            have hfin : t_20 = if okT a0 a1 a2 a3 a4 then (if t.2.2.2 2 = 4 then sN t 0 2 else yt a0 a1 a2 a3 a4 t) else sN t 0 1 := by
              subst ev_5
              rw [if_neg (fun h => c_18 h.2.2.2.2.1)]
              assumption
            rw [hfin] at hP hD
            subst hQ
            have hpost : (r_19 : Int32) = if okT a0 a1 a2 a3 a4 then (if t.2.2.2 2 = 4 then 0 else nI (t.2.2.2 2)) else 0 := by
              subst ev_5
              rw [if_neg (fun h => c_18 h.2.2.2.2.1)]
              assumption
            exact W.iret (v := r_19) hx hb hr (fun t9 ht hW => ⟨⟨r_19, (), rfl, hpost, by rw [ht]; exact hP, va_K.moved hW.alike hK, hD⟩, hS.F ht⟩) hS.2.2 de_M_tank_63
          · skip
            have c_18 := bz_t hw_17 c_18
            refine lv_lload hx hb de_M_tank_50 (lv_at hl 5 rfl) ?_
            refine cl_Si (As := [.long a4]) (rest := []) ⟨hx, hb, hml, hown, hts⟩ (mt_M_isPlace l dC dI ad T t a4) (va_cwS 1 hts (uw_S uw_838 uw_839 uw_36 uw_840) rfl rfl rfl (by decide +kernel) ⟨Nat.le_of_ble_eq_true rfl, Nat.le_of_ble_eq_true rfl⟩) rfl hl.1 rfl (Nat.le_of_ble_eq_true rfl) de_M_tank_52 ⟨Nat.zero_le _, Nat.zero_le _⟩ hK hN hP hD hS hA (fun r_21 _ H locs hw_21 hP hD hS => ?_)
            have hw_21 : bz r_21 (x_pl a4) := hw_21
            refine lv_if_ne (tgt := 64) hx hb de_M_tank_55 (by decide) (fun c_22 => ?_) (fun c_22 => ?_)
            · skip
              have c_22 := bz_t hw_21 c_22
              refine lv_aload_n hx hb de_M_tank_64 rfl (lv_at hl 0 rfl) ?_
              refine va_get (D := (dC, dI)) (ci := 9) (v := .int (nI (t.2.2.2 2))) (C := "StabilitySumsModel") (T := TB_M) (N := 33) hx hb hts ui_M hown hK hP 0 rfl rfl 6 (by decide) (hts _ uw_702) (fun _ h9 => h9) rfl de_M_tank_65 ?_
              refine lv_iconst (v := 4) hx hb de_M_tank_68 (by decide) ?_
              refine lv_icmp_ne (tgt := 78) hx hb de_M_tank_69 (by decide) (fun c_23 => ?_) (fun c_23 => ?_)
              · skip
                have c_23 : ¬ ((t.2.2.2 2) = 4) := fun z => c_23 ((nI_eq (a := t.2.2.2 2) (b := 4) (by omega) (by omega)).mpr z)
                refine lv_aload_n hx hb de_M_tank_78 rfl (lv_at hl 0 rfl) ?_
                refine lv_iconst (v := 0) hx hb de_M_tank_79 (by decide) ?_
                refine va_put (D := (dC, dI)) (ci := 9) (v := .int 0) (ty := .int) (C := "StabilitySumsModel") (T := TB_M) (N := 33) hx hb hts ui_M tt_M tk_M nm_M hown hK hP hD hS 0 rfl rfl 0 (by decide) (hts _ uw_696) (fun _ h9 => h9) rfl (by decide +kernel) rfl rfl (Nat.le_of_ble_eq_true rfl) de_M_tank_80 (fun H locs hP hD hS => ?_)
                have hP : va_P (dC, dI) CLS (wM ad T (sN t 0 0)) H := hP
                have hD : va_D A (wM ad T (sN t 0 0)) := hD
                refine lv_aload_n hx hb de_M_tank_83 rfl (lv_at hl 0 rfl) ?_
                refine va_get (D := (dC, dI)) (ci := 9) (v := .ref (ad 5)) (C := "StabilitySumsModel") (T := TB_M) (N := 33) hx hb hts ui_M hown hK hP 0 rfl rfl 7 (by decide) (hts _ uw_703) (fun _ h9 => h9) rfl de_M_tank_84 ?_
                refine lv_aload_n hx hb de_M_tank_87 rfl (lv_at hl 0 rfl) ?_
                refine va_get (D := (dC, dI)) (ci := 9) (v := .int (nI (t.2.2.2 2))) (C := "StabilitySumsModel") (T := TB_M) (N := 33) hx hb hts ui_M hown hK hP 0 rfl rfl 6 (by decide) (hts _ uw_702) (fun _ h9 => h9) rfl de_M_tank_88 ?_
                refine lv_lload_n hx hb de_M_tank_91 rfl (lv_at hl 1 rfl) ?_
                refine rw_last (f := t.1 4) (j := (t.2.2.2 2)) (x := a0) hx hb hK hP hD hS 5 0 rfl rfl (by omega) (by decide) de_M_tank_92 (fun H locs hP hD hS => ?_)
                have hP : va_P (dC, dI) CLS (wM ad T (sL (sN t 0 0) 4 (t.2.2.2 2) a0)) H := hP
                have hD : va_D A (wM ad T (sL (sN t 0 0) 4 (t.2.2.2 2) a0)) := hD
                refine lv_aload_n hx hb de_M_tank_93 rfl (lv_at hl 0 rfl) ?_
                refine va_get (D := (dC, dI)) (ci := 9) (v := .ref (ad 6)) (C := "StabilitySumsModel") (T := TB_M) (N := 33) hx hb hts ui_M hown hK hP 0 rfl rfl 8 (by decide) (hts _ uw_704) (fun _ h9 => h9) rfl de_M_tank_94 ?_
                refine lv_aload_n hx hb de_M_tank_97 rfl (lv_at hl 0 rfl) ?_
                refine va_get (D := (dC, dI)) (ci := 9) (v := .int (nI (t.2.2.2 2))) (C := "StabilitySumsModel") (T := TB_M) (N := 33) hx hb hts ui_M hown hK hP 0 rfl rfl 6 (by decide) (hts _ uw_702) (fun _ h9 => h9) rfl de_M_tank_98 ?_
                refine lv_lload_n hx hb de_M_tank_101 rfl (lv_at hl 2 rfl) ?_
                refine rw_last (f := t.1 5) (j := (t.2.2.2 2)) (x := a1) hx hb hK hP hD hS 6 0 rfl rfl (by omega) (by decide) de_M_tank_102 (fun H locs hP hD hS => ?_)
                have hP : va_P (dC, dI) CLS (wM ad T (sL (sL (sN t 0 0) 4 (t.2.2.2 2) a0) 5 (t.2.2.2 2) a1)) H := hP
                have hD : va_D A (wM ad T (sL (sL (sN t 0 0) 4 (t.2.2.2 2) a0) 5 (t.2.2.2 2) a1)) := hD
                refine lv_aload_n hx hb de_M_tank_103 rfl (lv_at hl 0 rfl) ?_
                refine va_get (D := (dC, dI)) (ci := 9) (v := .ref (ad 7)) (C := "StabilitySumsModel") (T := TB_M) (N := 33) hx hb hts ui_M hown hK hP 0 rfl rfl 9 (by decide) (hts _ uw_705) (fun _ h9 => h9) rfl de_M_tank_104 ?_
                refine lv_aload_n hx hb de_M_tank_107 rfl (lv_at hl 0 rfl) ?_
                refine va_get (D := (dC, dI)) (ci := 9) (v := .int (nI (t.2.2.2 2))) (C := "StabilitySumsModel") (T := TB_M) (N := 33) hx hb hts ui_M hown hK hP 0 rfl rfl 6 (by decide) (hts _ uw_702) (fun _ h9 => h9) rfl de_M_tank_108 ?_
                refine lv_lload hx hb de_M_tank_111 (lv_at hl 3 rfl) ?_
                refine rw_last (f := t.1 6) (j := (t.2.2.2 2)) (x := a2) hx hb hK hP hD hS 7 0 rfl rfl (by omega) (by decide) de_M_tank_113 (fun H locs hP hD hS => ?_)
                have hP : va_P (dC, dI) CLS (wM ad T (sL (sL (sL (sN t 0 0) 4 (t.2.2.2 2) a0) 5 (t.2.2.2 2) a1) 6 (t.2.2.2 2) a2)) H := hP
                have hD : va_D A (wM ad T (sL (sL (sL (sN t 0 0) 4 (t.2.2.2 2) a0) 5 (t.2.2.2 2) a1) 6 (t.2.2.2 2) a2)) := hD
                refine lv_aload_n hx hb de_M_tank_114 rfl (lv_at hl 0 rfl) ?_
                refine va_get (D := (dC, dI)) (ci := 9) (v := .ref (ad 8)) (C := "StabilitySumsModel") (T := TB_M) (N := 33) hx hb hts ui_M hown hK hP 0 rfl rfl 10 (by decide) (hts _ uw_706) (fun _ h9 => h9) rfl de_M_tank_115 ?_
                refine lv_aload_n hx hb de_M_tank_118 rfl (lv_at hl 0 rfl) ?_
                refine va_get (D := (dC, dI)) (ci := 9) (v := .int (nI (t.2.2.2 2))) (C := "StabilitySumsModel") (T := TB_M) (N := 33) hx hb hts ui_M hown hK hP 0 rfl rfl 6 (by decide) (hts _ uw_702) (fun _ h9 => h9) rfl de_M_tank_119 ?_
                refine lv_lload hx hb de_M_tank_122 (lv_at hl 4 rfl) ?_
                refine rw_last (f := t.1 7) (j := (t.2.2.2 2)) (x := a3) hx hb hK hP hD hS 8 0 rfl rfl (by omega) (by decide) de_M_tank_124 (fun H locs hP hD hS => ?_)
                have hP : va_P (dC, dI) CLS (wM ad T (sL (sL (sL (sL (sN t 0 0) 4 (t.2.2.2 2) a0) 5 (t.2.2.2 2) a1) 6 (t.2.2.2 2) a2) 7 (t.2.2.2 2) a3)) H := hP
                have hD : va_D A (wM ad T (sL (sL (sL (sL (sN t 0 0) 4 (t.2.2.2 2) a0) 5 (t.2.2.2 2) a1) 6 (t.2.2.2 2) a2) 7 (t.2.2.2 2) a3)) := hD
                refine lv_aload_n hx hb de_M_tank_125 rfl (lv_at hl 0 rfl) ?_
                refine va_get (D := (dC, dI)) (ci := 9) (v := .ref (ad 9)) (C := "StabilitySumsModel") (T := TB_M) (N := 33) hx hb hts ui_M hown hK hP 0 rfl rfl 11 (by decide) (hts _ uw_707) (fun _ h9 => h9) rfl de_M_tank_126 ?_
                refine lv_aload_n hx hb de_M_tank_129 rfl (lv_at hl 0 rfl) ?_
                refine va_get (D := (dC, dI)) (ci := 9) (v := .int (nI (t.2.2.2 2))) (C := "StabilitySumsModel") (T := TB_M) (N := 33) hx hb hts ui_M hown hK hP 0 rfl rfl 6 (by decide) (hts _ uw_702) (fun _ h9 => h9) rfl de_M_tank_130 ?_
                refine lv_lload hx hb de_M_tank_133 (lv_at hl 5 rfl) ?_
                refine rw_last (f := t.1 8) (j := (t.2.2.2 2)) (x := a4) hx hb hK hP hD hS 9 0 rfl rfl (by omega) (by decide) de_M_tank_135 (fun H locs hP hD hS => ?_)
                have hP : va_P (dC, dI) CLS (wM ad T (sL (sL (sL (sL (sL (sN t 0 0) 4 (t.2.2.2 2) a0) 5 (t.2.2.2 2) a1) 6 (t.2.2.2 2) a2) 7 (t.2.2.2 2) a3) 8 (t.2.2.2 2) a4)) H := hP
                have hD : va_D A (wM ad T (sL (sL (sL (sL (sL (sN t 0 0) 4 (t.2.2.2 2) a0) 5 (t.2.2.2 2) a1) 6 (t.2.2.2 2) a2) 7 (t.2.2.2 2) a3) 8 (t.2.2.2 2) a4)) := hD
                refine lv_aload_n hx hb de_M_tank_136 rfl (lv_at hl 0 rfl) ?_
                refine va_get (D := (dC, dI)) (ci := 9) (v := .ref (ad 10)) (C := "StabilitySumsModel") (T := TB_M) (N := 33) hx hb hts ui_M hown hK hP 0 rfl rfl 12 (by decide) (hts _ uw_708) (fun _ h9 => h9) rfl de_M_tank_137 ?_
                refine lv_aload_n hx hb de_M_tank_140 rfl (lv_at hl 0 rfl) ?_
                refine va_get (D := (dC, dI)) (ci := 9) (v := .int (nI (t.2.2.2 2))) (C := "StabilitySumsModel") (T := TB_M) (N := 33) hx hb hts ui_M hown hK hP 0 rfl rfl 6 (by decide) (hts _ uw_702) (fun _ h9 => h9) rfl de_M_tank_141 ?_
                refine lv_lconst (v := 0) hx hb de_M_tank_144 (by decide) ?_
                refine rw_last (f := t.1 9) (j := (t.2.2.2 2)) (x := 0) hx hb hK hP hD hS 10 0 rfl rfl (by omega) (by decide) de_M_tank_145 (fun H locs hP hD hS => ?_)
                have hP : va_P (dC, dI) CLS (wM ad T (sL (sL (sL (sL (sL (sL (sN t 0 0) 4 (t.2.2.2 2) a0) 5 (t.2.2.2 2) a1) 6 (t.2.2.2 2) a2) 7 (t.2.2.2 2) a3) 8 (t.2.2.2 2) a4) 9 (t.2.2.2 2) 0)) H := hP
                have hD : va_D A (wM ad T (sL (sL (sL (sL (sL (sL (sN t 0 0) 4 (t.2.2.2 2) a0) 5 (t.2.2.2 2) a1) 6 (t.2.2.2 2) a2) 7 (t.2.2.2 2) a3) 8 (t.2.2.2 2) a4) 9 (t.2.2.2 2) 0)) := hD
                refine lv_aload_n hx hb de_M_tank_146 rfl (lv_at hl 0 rfl) ?_
                refine lv_dup hx hb de_M_tank_147 rfl ?_
                refine va_get (D := (dC, dI)) (ci := 9) (v := .int (nI (t.2.2.2 2))) (C := "StabilitySumsModel") (T := TB_M) (N := 33) hx hb hts ui_M hown hK hP 0 rfl rfl 6 (by decide) (hts _ uw_702) (fun _ h9 => h9) rfl de_M_tank_148 ?_
                refine lv_iconst (v := 1) hx hb de_M_tank_151 (by decide) ?_
                refine lv_iadd hx hb de_M_tank_152 ?_
                refine lv_topi (fun v_24 ev_24 => ?_)
                have ev_24 : v_24 = (nI ((t.2.2.2 2) + 1)) := ev_24.trans (nI_add (t.2.2.2 2) 1)
                subst ev_24
                refine va_put (D := (dC, dI)) (ci := 9) (v := .int (nI ((t.2.2.2 2) + 1))) (ty := .int) (C := "StabilitySumsModel") (T := TB_M) (N := 33) hx hb hts ui_M tt_M tk_M nm_M hown hK hP hD hS 0 rfl rfl 6 (by decide) (hts _ uw_702) (fun _ h9 => h9) rfl (by decide +kernel) rfl rfl (Nat.le_of_ble_eq_true rfl) de_M_tank_153 (fun H locs hP hD hS => ?_)
                have hP : va_P (dC, dI) CLS (wM ad T (sN (sL (sL (sL (sL (sL (sL (sN t 0 0) 4 (t.2.2.2 2) a0) 5 (t.2.2.2 2) a1) 6 (t.2.2.2 2) a2) 7 (t.2.2.2 2) a3) 8 (t.2.2.2 2) a4) 9 (t.2.2.2 2) 0) 2 ((t.2.2.2 2) + 1))) H := hP
                have hD : va_D A (wM ad T (sN (sL (sL (sL (sL (sL (sL (sN t 0 0) 4 (t.2.2.2 2) a0) 5 (t.2.2.2 2) a1) 6 (t.2.2.2 2) a2) 7 (t.2.2.2 2) a3) 8 (t.2.2.2 2) a4) 9 (t.2.2.2 2) 0) 2 ((t.2.2.2 2) + 1))) := hD
                refine lv_aload_n hx hb de_M_tank_156 rfl (lv_at hl 0 rfl) ?_
                refine va_get (D := (dC, dI)) (ci := 9) (v := .int (nI ((t.2.2.2 2) + 1))) (C := "StabilitySumsModel") (T := TB_M) (N := 33) hx hb hts ui_M hown hK hP 0 rfl rfl 6 (by decide) (hts _ uw_702) (fun _ h9 => h9) rfl de_M_tank_157 ?_
                refine lv_iconst (v := 1) hx hb de_M_tank_160 (by decide) ?_
                refine lv_isub hx hb de_M_tank_161 ?_
                refine lv_topi (fun v_25 ev_25 => ?_)
                have ev_25 : v_25 = (nI (((t.2.2.2 2) + 1) - 1)) := ev_25.trans (pk_sub (a := (t.2.2.2 2) + 1) (b := 1) (by omega))
                subst ev_25
                have hfin : (sN (sL (sL (sL (sL (sL (sL (sN t 0 0) 4 (t.2.2.2 2) a0) 5 (t.2.2.2 2) a1) 6 (t.2.2.2 2) a2) 7 (t.2.2.2 2) a3) 8 (t.2.2.2 2) a4) 9 (t.2.2.2 2) 0) 2 ((t.2.2.2 2) + 1)) = if okT a0 a1 a2 a3 a4 then (if t.2.2.2 2 = 4 then sN t 0 2 else yt a0 a1 a2 a3 a4 t) else sN t 0 1 := by
                  subst ev_5
                  rw [if_pos ⟨c_2, c_6, c_10, c_14, c_18, c_22⟩, if_neg c_23]
                  first | done | rfl
                rw [hfin] at hP hD
                subst hQ
                have hpost : ((nI (((t.2.2.2 2) + 1) - 1)) : Int32) = if okT a0 a1 a2 a3 a4 then (if t.2.2.2 2 = 4 then 0 else nI (t.2.2.2 2)) else 0 := by
                  subst ev_5
                  rw [if_pos ⟨c_2, c_6, c_10, c_14, c_18, c_22⟩, if_neg c_23]
                  first | done | rfl
                exact W.iret (v := (nI (((t.2.2.2 2) + 1) - 1))) hx hb hr (fun t9 ht hW => ⟨⟨(nI (((t.2.2.2 2) + 1) - 1)), (), rfl, hpost, by rw [ht]; exact hP, va_K.moved hW.alike hK, hD⟩, hS.F ht⟩) hS.2.2 de_M_tank_162
              · skip
                have c_23 : (t.2.2.2 2) = 4 := (nI_eq (a := t.2.2.2 2) (b := 4) (by omega) (by omega)).mp c_23
                refine lv_aload_n hx hb de_M_tank_72 rfl (lv_at hl 0 rfl) ?_
                refine lv_iconst (v := 2) hx hb de_M_tank_73 (by decide) ?_
                refine cl_Vi (As := [.int 2]) (rest := []) ⟨hx, hb, hml, hown, hts⟩ (mt_M_fails l dC dI ad T t 2) (cwV 1 hts (uw_V uw_845 uw_847 uw_18 uw_36 uw_848) rfl rfl rfl (by decide +kernel) ⟨Nat.le_of_ble_eq_true rfl, Nat.le_of_ble_eq_true rfl⟩) (va_recv hK hP (ci := 9) (q0 := 0) rfl rfl) rfl hl.1 rfl (Nat.le_of_ble_eq_true rfl) de_M_tank_74 ⟨Nat.zero_le _, Nat.zero_le _⟩ hK hN hP hD hS hA (fun r_26 _ H locs hw_26 hP hD hS => ?_)
                have hw_26 : r_26 = 0 := hw_26
                obtain ⟨t_27, et_27⟩ : ∃ z, z = sN t 0 2 := ⟨_, rfl⟩
                have hP : va_P (dC, dI) CLS (wM ad T t_27) H := by rw [et_27]; exact hP
                have hD : va_D A (wM ad T t_27) := by rw [et_27]; exact hD
                have hfin : t_27 = if okT a0 a1 a2 a3 a4 then (if t.2.2.2 2 = 4 then sN t 0 2 else yt a0 a1 a2 a3 a4 t) else sN t 0 1 := by
                  subst ev_5
                  rw [if_pos ⟨c_2, c_6, c_10, c_14, c_18, c_22⟩, if_pos c_23]
                  assumption
                rw [hfin] at hP hD
                subst hQ
                have hpost : (r_26 : Int32) = if okT a0 a1 a2 a3 a4 then (if t.2.2.2 2 = 4 then 0 else nI (t.2.2.2 2)) else 0 := by
                  subst ev_5
                  rw [if_pos ⟨c_2, c_6, c_10, c_14, c_18, c_22⟩, if_pos c_23]
                  assumption
                exact W.iret (v := r_26) hx hb hr (fun t9 ht hW => ⟨⟨r_26, (), rfl, hpost, by rw [ht]; exact hP, va_K.moved hW.alike hK, hD⟩, hS.F ht⟩) hS.2.2 de_M_tank_77
            · skip
              have c_22 := bz_f hw_21 c_22
              refine lv_aload_n hx hb de_M_tank_58 rfl (lv_at hl 0 rfl) ?_
              refine lv_iconst (v := 1) hx hb de_M_tank_59 (by decide) ?_
              refine cl_Vi (As := [.int 1]) (rest := []) ⟨hx, hb, hml, hown, hts⟩ (mt_M_fails l dC dI ad T t 1) (cwV 1 hts (uw_V uw_845 uw_847 uw_18 uw_36 uw_848) rfl rfl rfl (by decide +kernel) ⟨Nat.le_of_ble_eq_true rfl, Nat.le_of_ble_eq_true rfl⟩) (va_recv hK hP (ci := 9) (q0 := 0) rfl rfl) rfl hl.1 rfl (Nat.le_of_ble_eq_true rfl) de_M_tank_60 ⟨Nat.zero_le _, Nat.zero_le _⟩ hK hN hP hD hS hA (fun r_28 _ H locs hw_28 hP hD hS => ?_)
              have hw_28 : r_28 = 0 := hw_28
              obtain ⟨t_29, et_29⟩ : ∃ z, z = sN t 0 1 := ⟨_, rfl⟩
              have hP : va_P (dC, dI) CLS (wM ad T t_29) H := by rw [et_29]; exact hP
              have hD : va_D A (wM ad T t_29) := by rw [et_29]; exact hD
              have hfin : t_29 = if okT a0 a1 a2 a3 a4 then (if t.2.2.2 2 = 4 then sN t 0 2 else yt a0 a1 a2 a3 a4 t) else sN t 0 1 := by
                subst ev_5
                rw [if_neg (fun h => c_22 h.2.2.2.2.2)]
                assumption
              rw [hfin] at hP hD
              subst hQ
              have hpost : (r_28 : Int32) = if okT a0 a1 a2 a3 a4 then (if t.2.2.2 2 = 4 then 0 else nI (t.2.2.2 2)) else 0 := by
                subst ev_5
                rw [if_neg (fun h => c_22 h.2.2.2.2.2)]
                assumption
              exact W.iret (v := r_28) hx hb hr (fun t9 ht hW => ⟨⟨r_28, (), rfl, hpost, by rw [ht]; exact hP, va_K.moved hW.alike hK, hD⟩, hS.F ht⟩) hS.2.2 de_M_tank_63
set_option maxHeartbeats 4000000 in
set_option maxRecDepth 100000 in
theorem mt_M_limit (l : Launch) (dC : Nat → ClassId) (dI : Nat → Nat → Nat) (ad : Nat → Nat) (T : Nat → ClassId) (t : St) (a0 : Int32) (a1 : Int64) (a2 : Int64) (a3 : Int64) (hI : IvM t) (sz : Nat) : Met l yn_M_limit (.code yn_M_limit cd_M_limit 10 (some .int) :: UW) ({ frames := 2, cells := 0, slots := 0, locals := 46 } : Room) (va_Pc [.ref (ad 0), .int a0, .long a1, .long a2, .long a3] (Pw (dC, dI) CLS (TY T) (wM ad T t) sz)) (va_Qi (fun (r : Int32) (_ : Unit) => r = if okL a0 a1 a2 a3 then (if t.2.2.2 4 = 10 then 0 else nI (t.2.2.2 4 + 1)) else 0) (Bw (dC, dI) CLS (TY T) (fun _ : Unit => (wM ad T (if okL a0 a1 a2 a3 then (if t.2.2.2 4 = 10 then sN t 0 2 else yl a0 a1 a2 a3 t) else sN t 0 1))) (va_A (wM ad T t) sz)) (va_A (wM ad T t) sz)) 0 0 (va_A (wM ad T t) sz) := by
  refine Met.ofW (cc := cd_M_limit) (maxL := 10) (ret := (some .int)) (by decide) rfl ?_
  intro p e s m args below meth c s₁ B hml hv
  obtain ⟨rfl, hsz, hP, hK, hD0, hN⟩ := hv
  have hx := B.exec
  have hb := B.bytes
  have hr := B.returns
  have hts : ∀ w ∈ UW, w.before _ s = true := fun w h => atoms_spec (ws := .code yn_M_limit cd_M_limit 10 (some .int) :: UW) B.pre w (List.mem_cons_of_mem _ h)
  have hown : s.vm.findClass "StabilitySumsModel" = some m.cls := findClass_of_methodNamed B.named
  have hlocks := B.notSynchronized
  subst hsz
  have hD := hD0.self (sz := s.heap.size)
  generalize hAe : va_A (wM ad T t) s.heap.size = A at hD ⊢
  have hA : ∀ q : Nat, s.heap.size ≤ q → A q := fun q h => by rw [← hAe]; exact Or.inr h
  have hS : va_S A s.heap s.heap [] := va_S.rf
  have hl := lv_entry ([.ref (ad 0), .int a0, .long a1, .long a2, .long a3]) (n := 10) (Nat.le_of_ble_eq_true rfl)
  rw [lg_entry_eq]
  generalize (lg_sl ([.ref (ad 0), .int a0, .long a1, .long a2, .long a3]) ++ List.replicate (10 - (lg_sl ([.ref (ad 0), .int a0, .long a1, .long a2, .long a3])).length) Slot.unset).toArray = ls at hl ⊢
  have hl : lv_has ls 10 [(0, .ref (ad 0)), (1, .int a0), (2, .long a1), (4, .long a2), (6, .long a3)] := hl
  generalize hQ : MQ below _ _ s 0 0 A = Q
  obtain ⟨hI1, hI2, hI3, hI4, hI5⟩ := hI
  refine lv_ldc2 (v := 10000000000000) hx hb hown (hts _ uw_895) de_M_limit_0 ?_
  refine lv_lstore (lv' := [(8, .long 10000000000000), (0, .ref (ad 0)), (1, .int a0), (2, .long a1), (4, .long a2), (6, .long a3)]) hx hb de_M_limit_3 hl (by decide) rfl (fun ls hl => ?_)
  refine lv_iload_n hx hb de_M_limit_5 rfl (lv_at hl 2 rfl) ?_
  refine lv_if_lt (tgt := 56) hx hb de_M_limit_6 (by decide) (fun c_1 => ?_) (fun c_1 => ?_)
  · skip
    refine lv_aload_n hx hb de_M_limit_56 rfl (lv_at hl 1 rfl) ?_
    refine lv_iconst (v := 1) hx hb de_M_limit_57 (by decide) ?_
    refine cl_Vi (As := [.int 1]) (rest := []) ⟨hx, hb, hml, hown, hts⟩ (mt_M_fails l dC dI ad T t 1) (cwV 1 hts (uw_V uw_845 uw_847 uw_18 uw_36 uw_848) rfl rfl rfl (by decide +kernel) ⟨Nat.le_of_ble_eq_true rfl, Nat.le_of_ble_eq_true rfl⟩) (va_recv hK hP (ci := 9) (q0 := 0) rfl rfl) rfl hl.1 rfl (Nat.le_of_ble_eq_true rfl) de_M_limit_58 ⟨Nat.zero_le _, Nat.zero_le _⟩ hK hN hP hD hS hA (fun r_2 _ H locs hw_2 hP hD hS => ?_)
    have hw_2 : r_2 = 0 := hw_2
    obtain ⟨t_3, et_3⟩ : ∃ z, z = sN t 0 1 := ⟨_, rfl⟩
    have hP : va_P (dC, dI) CLS (wM ad T t_3) H := by rw [et_3]; exact hP
    have hD : va_D A (wM ad T t_3) := by rw [et_3]; exact hD
    have hfin : t_3 = if okL a0 a1 a2 a3 then (if t.2.2.2 4 = 10 then sN t 0 2 else yl a0 a1 a2 a3 t) else sN t 0 1 := by
      rw [if_neg (fun h => h.1 c_1)]
      assumption
    rw [hfin] at hP hD
    subst hQ
    have hpost : (r_2 : Int32) = if okL a0 a1 a2 a3 then (if t.2.2.2 4 = 10 then 0 else nI (t.2.2.2 4 + 1)) else 0 := by
      rw [if_neg (fun h => h.1 c_1)]
      assumption
    exact W.iret (v := r_2) hx hb hr (fun t9 ht hW => ⟨⟨r_2, (), rfl, hpost, by rw [ht]; exact hP, va_K.moved hW.alike hK, hD⟩, hS.F ht⟩) hS.2.2 de_M_limit_61
  · skip
    refine lv_iload_n hx hb de_M_limit_9 rfl (lv_at hl 2 rfl) ?_
    refine lv_bipush (v := 9) hx hb de_M_limit_10 (by decide) ?_
    refine lv_icmp_gt (tgt := 56) hx hb de_M_limit_12 (by decide) (fun c_4 => ?_) (fun c_4 => ?_)
    · skip
      refine lv_aload_n hx hb de_M_limit_56 rfl (lv_at hl 1 rfl) ?_
      refine lv_iconst (v := 1) hx hb de_M_limit_57 (by decide) ?_
      refine cl_Vi (As := [.int 1]) (rest := []) ⟨hx, hb, hml, hown, hts⟩ (mt_M_fails l dC dI ad T t 1) (cwV 1 hts (uw_V uw_845 uw_847 uw_18 uw_36 uw_848) rfl rfl rfl (by decide +kernel) ⟨Nat.le_of_ble_eq_true rfl, Nat.le_of_ble_eq_true rfl⟩) (va_recv hK hP (ci := 9) (q0 := 0) rfl rfl) rfl hl.1 rfl (Nat.le_of_ble_eq_true rfl) de_M_limit_58 ⟨Nat.zero_le _, Nat.zero_le _⟩ hK hN hP hD hS hA (fun r_5 _ H locs hw_5 hP hD hS => ?_)
      have hw_5 : r_5 = 0 := hw_5
      obtain ⟨t_6, et_6⟩ : ∃ z, z = sN t 0 1 := ⟨_, rfl⟩
      have hP : va_P (dC, dI) CLS (wM ad T t_6) H := by rw [et_6]; exact hP
      have hD : va_D A (wM ad T t_6) := by rw [et_6]; exact hD
      have hfin : t_6 = if okL a0 a1 a2 a3 then (if t.2.2.2 4 = 10 then sN t 0 2 else yl a0 a1 a2 a3 t) else sN t 0 1 := by
        rw [if_neg (fun h => h.2.1 c_4)]
        assumption
      rw [hfin] at hP hD
      subst hQ
      have hpost : (r_5 : Int32) = if okL a0 a1 a2 a3 then (if t.2.2.2 4 = 10 then 0 else nI (t.2.2.2 4 + 1)) else 0 := by
        rw [if_neg (fun h => h.2.1 c_4)]
        assumption
      exact W.iret (v := r_5) hx hb hr (fun t9 ht hW => ⟨⟨r_5, (), rfl, hpost, by rw [ht]; exact hP, va_K.moved hW.alike hK, hD⟩, hS.F ht⟩) hS.2.2 de_M_limit_61
    · skip
      refine lv_lload hx hb de_M_limit_15 (lv_at hl 4 rfl) ?_
      refine lv_lload hx hb de_M_limit_17 (lv_at hl 5 rfl) ?_
      refine rw_gt (tgt := 56) hx hb de_M_limit_19 de_M_limit_20 (by decide) (fun c_7 => ?_) (fun c_7 => ?_)
      · skip
        refine lv_aload_n hx hb de_M_limit_56 rfl (lv_at hl 1 rfl) ?_
        refine lv_iconst (v := 1) hx hb de_M_limit_57 (by decide) ?_
        refine cl_Vi (As := [.int 1]) (rest := []) ⟨hx, hb, hml, hown, hts⟩ (mt_M_fails l dC dI ad T t 1) (cwV 1 hts (uw_V uw_845 uw_847 uw_18 uw_36 uw_848) rfl rfl rfl (by decide +kernel) ⟨Nat.le_of_ble_eq_true rfl, Nat.le_of_ble_eq_true rfl⟩) (va_recv hK hP (ci := 9) (q0 := 0) rfl rfl) rfl hl.1 rfl (Nat.le_of_ble_eq_true rfl) de_M_limit_58 ⟨Nat.zero_le _, Nat.zero_le _⟩ hK hN hP hD hS hA (fun r_8 _ H locs hw_8 hP hD hS => ?_)
        have hw_8 : r_8 = 0 := hw_8
        obtain ⟨t_9, et_9⟩ : ∃ z, z = sN t 0 1 := ⟨_, rfl⟩
        have hP : va_P (dC, dI) CLS (wM ad T t_9) H := by rw [et_9]; exact hP
        have hD : va_D A (wM ad T t_9) := by rw [et_9]; exact hD
        have hfin : t_9 = if okL a0 a1 a2 a3 then (if t.2.2.2 4 = 10 then sN t 0 2 else yl a0 a1 a2 a3 t) else sN t 0 1 := by
          rw [if_neg (fun h => h.2.2.1 c_7)]
          assumption
        rw [hfin] at hP hD
        subst hQ
        have hpost : (r_8 : Int32) = if okL a0 a1 a2 a3 then (if t.2.2.2 4 = 10 then 0 else nI (t.2.2.2 4 + 1)) else 0 := by
          rw [if_neg (fun h => h.2.2.1 c_7)]
          assumption
        exact W.iret (v := r_8) hx hb hr (fun t9 ht hW => ⟨⟨r_8, (), rfl, hpost, by rw [ht]; exact hP, va_K.moved hW.alike hK, hD⟩, hS.F ht⟩) hS.2.2 de_M_limit_61
      · skip
        refine lv_lload hx hb de_M_limit_23 (lv_at hl 4 rfl) ?_
        refine lv_lload hx hb de_M_limit_25 (lv_at hl 0 rfl) ?_
        refine lv_lneg hx hb de_M_limit_27 ?_
        refine lv_lload hx hb de_M_limit_28 (lv_at hl 0 rfl) ?_
        refine cl_Si (As := [.long a2, .long (-10000000000000), .long 10000000000000]) (rest := []) ⟨hx, hb, hml, hown, hts⟩ (mt_M_in l dC dI ad T t a2 (-10000000000000) 10000000000000) (va_cwS 3 hts (uw_S uw_842 uw_843 uw_36 uw_844) rfl rfl rfl (by decide +kernel) ⟨Nat.le_of_ble_eq_true rfl, Nat.le_of_ble_eq_true rfl⟩) rfl hl.1 rfl (Nat.le_of_ble_eq_true rfl) de_M_limit_30 ⟨Nat.zero_le _, Nat.zero_le _⟩ hK hN hP hD hS hA (fun r_10 _ H locs hw_10 hP hD hS => ?_)
        have hw_10 : bz r_10 (x_in a2 (-10000000000000) 10000000000000) := hw_10
        refine lv_if_eq (tgt := 56) hx hb de_M_limit_33 (by decide) (fun c_11 => ?_) (fun c_11 => ?_)
        · skip
          have c_11 := bz_f hw_10 c_11
          refine lv_aload_n hx hb de_M_limit_56 rfl (lv_at hl 1 rfl) ?_
          refine lv_iconst (v := 1) hx hb de_M_limit_57 (by decide) ?_
          refine cl_Vi (As := [.int 1]) (rest := []) ⟨hx, hb, hml, hown, hts⟩ (mt_M_fails l dC dI ad T t 1) (cwV 1 hts (uw_V uw_845 uw_847 uw_18 uw_36 uw_848) rfl rfl rfl (by decide +kernel) ⟨Nat.le_of_ble_eq_true rfl, Nat.le_of_ble_eq_true rfl⟩) (va_recv hK hP (ci := 9) (q0 := 0) rfl rfl) rfl hl.1 rfl (Nat.le_of_ble_eq_true rfl) de_M_limit_58 ⟨Nat.zero_le _, Nat.zero_le _⟩ hK hN hP hD hS hA (fun r_12 _ H locs hw_12 hP hD hS => ?_)
          have hw_12 : r_12 = 0 := hw_12
          obtain ⟨t_13, et_13⟩ : ∃ z, z = sN t 0 1 := ⟨_, rfl⟩
          have hP : va_P (dC, dI) CLS (wM ad T t_13) H := by rw [et_13]; exact hP
          have hD : va_D A (wM ad T t_13) := by rw [et_13]; exact hD
          have hfin : t_13 = if okL a0 a1 a2 a3 then (if t.2.2.2 4 = 10 then sN t 0 2 else yl a0 a1 a2 a3 t) else sN t 0 1 := by
            rw [if_neg (fun h => c_11 h.2.2.2.1)]
            assumption
          rw [hfin] at hP hD
          subst hQ
          have hpost : (r_12 : Int32) = if okL a0 a1 a2 a3 then (if t.2.2.2 4 = 10 then 0 else nI (t.2.2.2 4 + 1)) else 0 := by
            rw [if_neg (fun h => c_11 h.2.2.2.1)]
            assumption
          exact W.iret (v := r_12) hx hb hr (fun t9 ht hW => ⟨⟨r_12, (), rfl, hpost, by rw [ht]; exact hP, va_K.moved hW.alike hK, hD⟩, hS.F ht⟩) hS.2.2 de_M_limit_61
        · skip
          have c_11 := bz_t hw_10 c_11
          refine lv_lload hx hb de_M_limit_36 (lv_at hl 5 rfl) ?_
          refine lv_lload hx hb de_M_limit_38 (lv_at hl 0 rfl) ?_
          refine lv_lneg hx hb de_M_limit_40 ?_
          refine lv_lload hx hb de_M_limit_41 (lv_at hl 0 rfl) ?_
          refine cl_Si (As := [.long a3, .long (-10000000000000), .long 10000000000000]) (rest := []) ⟨hx, hb, hml, hown, hts⟩ (mt_M_in l dC dI ad T t a3 (-10000000000000) 10000000000000) (va_cwS 3 hts (uw_S uw_842 uw_843 uw_36 uw_844) rfl rfl rfl (by decide +kernel) ⟨Nat.le_of_ble_eq_true rfl, Nat.le_of_ble_eq_true rfl⟩) rfl hl.1 rfl (Nat.le_of_ble_eq_true rfl) de_M_limit_43 ⟨Nat.zero_le _, Nat.zero_le _⟩ hK hN hP hD hS hA (fun r_14 _ H locs hw_14 hP hD hS => ?_)
          have hw_14 : bz r_14 (x_in a3 (-10000000000000) 10000000000000) := hw_14
          refine lv_if_eq (tgt := 56) hx hb de_M_limit_46 (by decide) (fun c_15 => ?_) (fun c_15 => ?_)
          · skip
            have c_15 := bz_f hw_14 c_15
            refine lv_aload_n hx hb de_M_limit_56 rfl (lv_at hl 1 rfl) ?_
            refine lv_iconst (v := 1) hx hb de_M_limit_57 (by decide) ?_
            refine cl_Vi (As := [.int 1]) (rest := []) ⟨hx, hb, hml, hown, hts⟩ (mt_M_fails l dC dI ad T t 1) (cwV 1 hts (uw_V uw_845 uw_847 uw_18 uw_36 uw_848) rfl rfl rfl (by decide +kernel) ⟨Nat.le_of_ble_eq_true rfl, Nat.le_of_ble_eq_true rfl⟩) (va_recv hK hP (ci := 9) (q0 := 0) rfl rfl) rfl hl.1 rfl (Nat.le_of_ble_eq_true rfl) de_M_limit_58 ⟨Nat.zero_le _, Nat.zero_le _⟩ hK hN hP hD hS hA (fun r_16 _ H locs hw_16 hP hD hS => ?_)
            have hw_16 : r_16 = 0 := hw_16
            obtain ⟨t_17, et_17⟩ : ∃ z, z = sN t 0 1 := ⟨_, rfl⟩
            have hP : va_P (dC, dI) CLS (wM ad T t_17) H := by rw [et_17]; exact hP
            have hD : va_D A (wM ad T t_17) := by rw [et_17]; exact hD
            have hfin : t_17 = if okL a0 a1 a2 a3 then (if t.2.2.2 4 = 10 then sN t 0 2 else yl a0 a1 a2 a3 t) else sN t 0 1 := by
              rw [if_neg (fun h => c_15 h.2.2.2.2.1)]
              assumption
            rw [hfin] at hP hD
            subst hQ
            have hpost : (r_16 : Int32) = if okL a0 a1 a2 a3 then (if t.2.2.2 4 = 10 then 0 else nI (t.2.2.2 4 + 1)) else 0 := by
              rw [if_neg (fun h => c_15 h.2.2.2.2.1)]
              assumption
            exact W.iret (v := r_16) hx hb hr (fun t9 ht hW => ⟨⟨r_16, (), rfl, hpost, by rw [ht]; exact hP, va_K.moved hW.alike hK, hD⟩, hS.F ht⟩) hS.2.2 de_M_limit_61
          · skip
            have c_15 := bz_t hw_14 c_15
            refine lv_lload_n hx hb de_M_limit_49 rfl (lv_at hl 3 rfl) ?_
            refine cl_Si (As := [.long a1]) (rest := []) ⟨hx, hb, hml, hown, hts⟩ (mt_M_isPlace l dC dI ad T t a1) (va_cwS 1 hts (uw_S uw_838 uw_839 uw_36 uw_840) rfl rfl rfl (by decide +kernel) ⟨Nat.le_of_ble_eq_true rfl, Nat.le_of_ble_eq_true rfl⟩) rfl hl.1 rfl (Nat.le_of_ble_eq_true rfl) de_M_limit_50 ⟨Nat.zero_le _, Nat.zero_le _⟩ hK hN hP hD hS hA (fun r_18 _ H locs hw_18 hP hD hS => ?_)
            have hw_18 : bz r_18 (x_pl a1) := hw_18
            refine lv_if_ne (tgt := 62) hx hb de_M_limit_53 (by decide) (fun c_19 => ?_) (fun c_19 => ?_)
            · skip
              have c_19 := bz_t hw_18 c_19
              refine lv_aload_n hx hb de_M_limit_62 rfl (lv_at hl 1 rfl) ?_
              refine va_get (D := (dC, dI)) (ci := 9) (v := .int (nI (t.2.2.2 4))) (C := "StabilitySumsModel") (T := TB_M) (N := 33) hx hb hts ui_M hown hK hP 0 rfl rfl 22 (by decide) (hts _ uw_718) (fun _ h9 => h9) rfl de_M_limit_63 ?_
              refine lv_bipush (v := 10) hx hb de_M_limit_66 (by decide) ?_
              refine lv_icmp_ne (tgt := 77) hx hb de_M_limit_68 (by decide) (fun c_20 => ?_) (fun c_20 => ?_)
              · skip
                have c_20 : ¬ ((t.2.2.2 4) = 10) := fun z => c_20 ((nI_eq (a := t.2.2.2 4) (b := 10) (by omega) (by omega)).mpr z)
                refine lv_aload_n hx hb de_M_limit_77 rfl (lv_at hl 1 rfl) ?_
                refine lv_iconst (v := 0) hx hb de_M_limit_78 (by decide) ?_
                refine va_put (D := (dC, dI)) (ci := 9) (v := .int 0) (ty := .int) (C := "StabilitySumsModel") (T := TB_M) (N := 33) hx hb hts ui_M tt_M tk_M nm_M hown hK hP hD hS 0 rfl rfl 0 (by decide) (hts _ uw_696) (fun _ h9 => h9) rfl (by decide +kernel) rfl rfl (Nat.le_of_ble_eq_true rfl) de_M_limit_79 (fun H locs hP hD hS => ?_)
                have hP : va_P (dC, dI) CLS (wM ad T (sN t 0 0)) H := hP
                have hD : va_D A (wM ad T (sN t 0 0)) := hD
                refine lv_aload_n hx hb de_M_limit_82 rfl (lv_at hl 1 rfl) ?_
                refine va_get (D := (dC, dI)) (ci := 9) (v := .ref (ad 17)) (C := "StabilitySumsModel") (T := TB_M) (N := 33) hx hb hts ui_M hown hK hP 0 rfl rfl 23 (by decide) (hts _ uw_719) (fun _ h9 => h9) rfl de_M_limit_83 ?_
                refine lv_aload_n hx hb de_M_limit_86 rfl (lv_at hl 1 rfl) ?_
                refine va_get (D := (dC, dI)) (ci := 9) (v := .int (nI (t.2.2.2 4))) (C := "StabilitySumsModel") (T := TB_M) (N := 33) hx hb hts ui_M hown hK hP 0 rfl rfl 22 (by decide) (hts _ uw_718) (fun _ h9 => h9) rfl de_M_limit_87 ?_
                refine lv_iload_n hx hb de_M_limit_90 rfl (lv_at hl 2 rfl) ?_
                refine rw_iast (f := t.2.1 0) (j := (t.2.2.2 4)) (x := a0) hx hb hK hP hD hS 17 1 rfl rfl (by omega) (by decide) de_M_limit_91 (fun H locs hP hD hS => ?_)
                have hP : va_P (dC, dI) CLS (wM ad T (sI (sN t 0 0) 0 (t.2.2.2 4) a0)) H := hP
                have hD : va_D A (wM ad T (sI (sN t 0 0) 0 (t.2.2.2 4) a0)) := hD
                refine lv_aload_n hx hb de_M_limit_92 rfl (lv_at hl 1 rfl) ?_
                refine va_get (D := (dC, dI)) (ci := 9) (v := .ref (ad 18)) (C := "StabilitySumsModel") (T := TB_M) (N := 33) hx hb hts ui_M hown hK hP 0 rfl rfl 24 (by decide) (hts _ uw_720) (fun _ h9 => h9) rfl de_M_limit_93 ?_
                refine lv_aload_n hx hb de_M_limit_96 rfl (lv_at hl 1 rfl) ?_
                refine va_get (D := (dC, dI)) (ci := 9) (v := .int (nI (t.2.2.2 4))) (C := "StabilitySumsModel") (T := TB_M) (N := 33) hx hb hts ui_M hown hK hP 0 rfl rfl 22 (by decide) (hts _ uw_718) (fun _ h9 => h9) rfl de_M_limit_97 ?_
                refine lv_lload_n hx hb de_M_limit_100 rfl (lv_at hl 3 rfl) ?_
                refine rw_last (f := t.1 16) (j := (t.2.2.2 4)) (x := a1) hx hb hK hP hD hS 18 0 rfl rfl (by omega) (by decide) de_M_limit_101 (fun H locs hP hD hS => ?_)
                have hP : va_P (dC, dI) CLS (wM ad T (sL (sI (sN t 0 0) 0 (t.2.2.2 4) a0) 16 (t.2.2.2 4) a1)) H := hP
                have hD : va_D A (wM ad T (sL (sI (sN t 0 0) 0 (t.2.2.2 4) a0) 16 (t.2.2.2 4) a1)) := hD
                refine lv_aload_n hx hb de_M_limit_102 rfl (lv_at hl 1 rfl) ?_
                refine va_get (D := (dC, dI)) (ci := 9) (v := .ref (ad 19)) (C := "StabilitySumsModel") (T := TB_M) (N := 33) hx hb hts ui_M hown hK hP 0 rfl rfl 25 (by decide) (hts _ uw_721) (fun _ h9 => h9) rfl de_M_limit_103 ?_
                refine lv_aload_n hx hb de_M_limit_106 rfl (lv_at hl 1 rfl) ?_
                refine va_get (D := (dC, dI)) (ci := 9) (v := .int (nI (t.2.2.2 4))) (C := "StabilitySumsModel") (T := TB_M) (N := 33) hx hb hts ui_M hown hK hP 0 rfl rfl 22 (by decide) (hts _ uw_718) (fun _ h9 => h9) rfl de_M_limit_107 ?_
                refine lv_lload hx hb de_M_limit_110 (lv_at hl 4 rfl) ?_
                refine rw_last (f := t.1 17) (j := (t.2.2.2 4)) (x := a2) hx hb hK hP hD hS 19 0 rfl rfl (by omega) (by decide) de_M_limit_112 (fun H locs hP hD hS => ?_)
                have hP : va_P (dC, dI) CLS (wM ad T (sL (sL (sI (sN t 0 0) 0 (t.2.2.2 4) a0) 16 (t.2.2.2 4) a1) 17 (t.2.2.2 4) a2)) H := hP
                have hD : va_D A (wM ad T (sL (sL (sI (sN t 0 0) 0 (t.2.2.2 4) a0) 16 (t.2.2.2 4) a1) 17 (t.2.2.2 4) a2)) := hD
                refine lv_aload_n hx hb de_M_limit_113 rfl (lv_at hl 1 rfl) ?_
                refine va_get (D := (dC, dI)) (ci := 9) (v := .ref (ad 20)) (C := "StabilitySumsModel") (T := TB_M) (N := 33) hx hb hts ui_M hown hK hP 0 rfl rfl 26 (by decide) (hts _ uw_722) (fun _ h9 => h9) rfl de_M_limit_114 ?_
                refine lv_aload_n hx hb de_M_limit_117 rfl (lv_at hl 1 rfl) ?_
                refine va_get (D := (dC, dI)) (ci := 9) (v := .int (nI (t.2.2.2 4))) (C := "StabilitySumsModel") (T := TB_M) (N := 33) hx hb hts ui_M hown hK hP 0 rfl rfl 22 (by decide) (hts _ uw_718) (fun _ h9 => h9) rfl de_M_limit_118 ?_
                refine lv_lload hx hb de_M_limit_121 (lv_at hl 5 rfl) ?_
                refine rw_last (f := t.1 18) (j := (t.2.2.2 4)) (x := a3) hx hb hK hP hD hS 20 0 rfl rfl (by omega) (by decide) de_M_limit_123 (fun H locs hP hD hS => ?_)
                have hP : va_P (dC, dI) CLS (wM ad T (sL (sL (sL (sI (sN t 0 0) 0 (t.2.2.2 4) a0) 16 (t.2.2.2 4) a1) 17 (t.2.2.2 4) a2) 18 (t.2.2.2 4) a3)) H := hP
                have hD : va_D A (wM ad T (sL (sL (sL (sI (sN t 0 0) 0 (t.2.2.2 4) a0) 16 (t.2.2.2 4) a1) 17 (t.2.2.2 4) a2) 18 (t.2.2.2 4) a3)) := hD
                refine lv_aload_n hx hb de_M_limit_124 rfl (lv_at hl 1 rfl) ?_
                refine lv_dup hx hb de_M_limit_125 rfl ?_
                refine va_get (D := (dC, dI)) (ci := 9) (v := .int (nI (t.2.2.2 4))) (C := "StabilitySumsModel") (T := TB_M) (N := 33) hx hb hts ui_M hown hK hP 0 rfl rfl 22 (by decide) (hts _ uw_718) (fun _ h9 => h9) rfl de_M_limit_126 ?_
                refine lv_iconst (v := 1) hx hb de_M_limit_129 (by decide) ?_
                refine lv_iadd hx hb de_M_limit_130 ?_
                refine lv_topi (fun v_21 ev_21 => ?_)
                have ev_21 : v_21 = (nI ((t.2.2.2 4) + 1)) := ev_21.trans (nI_add (t.2.2.2 4) 1)
                subst ev_21
                refine va_put (D := (dC, dI)) (ci := 9) (v := .int (nI ((t.2.2.2 4) + 1))) (ty := .int) (C := "StabilitySumsModel") (T := TB_M) (N := 33) hx hb hts ui_M tt_M tk_M nm_M hown hK hP hD hS 0 rfl rfl 22 (by decide) (hts _ uw_718) (fun _ h9 => h9) rfl (by decide +kernel) rfl rfl (Nat.le_of_ble_eq_true rfl) de_M_limit_131 (fun H locs hP hD hS => ?_)
                have hP : va_P (dC, dI) CLS (wM ad T (sN (sL (sL (sL (sI (sN t 0 0) 0 (t.2.2.2 4) a0) 16 (t.2.2.2 4) a1) 17 (t.2.2.2 4) a2) 18 (t.2.2.2 4) a3) 4 ((t.2.2.2 4) + 1))) H := hP
                have hD : va_D A (wM ad T (sN (sL (sL (sL (sI (sN t 0 0) 0 (t.2.2.2 4) a0) 16 (t.2.2.2 4) a1) 17 (t.2.2.2 4) a2) 18 (t.2.2.2 4) a3) 4 ((t.2.2.2 4) + 1))) := hD
                refine lv_aload_n hx hb de_M_limit_134 rfl (lv_at hl 1 rfl) ?_
                refine va_get (D := (dC, dI)) (ci := 9) (v := .int (nI ((t.2.2.2 4) + 1))) (C := "StabilitySumsModel") (T := TB_M) (N := 33) hx hb hts ui_M hown hK hP 0 rfl rfl 22 (by decide) (hts _ uw_718) (fun _ h9 => h9) rfl de_M_limit_135 ?_
                have hfin : (sN (sL (sL (sL (sI (sN t 0 0) 0 (t.2.2.2 4) a0) 16 (t.2.2.2 4) a1) 17 (t.2.2.2 4) a2) 18 (t.2.2.2 4) a3) 4 ((t.2.2.2 4) + 1)) = if okL a0 a1 a2 a3 then (if t.2.2.2 4 = 10 then sN t 0 2 else yl a0 a1 a2 a3 t) else sN t 0 1 := by
                  rw [if_pos ⟨c_1, c_4, c_7, c_11, c_15, c_19⟩, if_neg c_20]
                  first | done | rfl
                rw [hfin] at hP hD
                subst hQ
                have hpost : ((nI ((t.2.2.2 4) + 1)) : Int32) = if okL a0 a1 a2 a3 then (if t.2.2.2 4 = 10 then 0 else nI (t.2.2.2 4 + 1)) else 0 := by
                  rw [if_pos ⟨c_1, c_4, c_7, c_11, c_15, c_19⟩, if_neg c_20]
                  first | done | rfl
                exact W.iret (v := (nI ((t.2.2.2 4) + 1))) hx hb hr (fun t9 ht hW => ⟨⟨(nI ((t.2.2.2 4) + 1)), (), rfl, hpost, by rw [ht]; exact hP, va_K.moved hW.alike hK, hD⟩, hS.F ht⟩) hS.2.2 de_M_limit_138
              · skip
                have c_20 : (t.2.2.2 4) = 10 := (nI_eq (a := t.2.2.2 4) (b := 10) (by omega) (by omega)).mp c_20
                refine lv_aload_n hx hb de_M_limit_71 rfl (lv_at hl 1 rfl) ?_
                refine lv_iconst (v := 2) hx hb de_M_limit_72 (by decide) ?_
                refine cl_Vi (As := [.int 2]) (rest := []) ⟨hx, hb, hml, hown, hts⟩ (mt_M_fails l dC dI ad T t 2) (cwV 1 hts (uw_V uw_845 uw_847 uw_18 uw_36 uw_848) rfl rfl rfl (by decide +kernel) ⟨Nat.le_of_ble_eq_true rfl, Nat.le_of_ble_eq_true rfl⟩) (va_recv hK hP (ci := 9) (q0 := 0) rfl rfl) rfl hl.1 rfl (Nat.le_of_ble_eq_true rfl) de_M_limit_73 ⟨Nat.zero_le _, Nat.zero_le _⟩ hK hN hP hD hS hA (fun r_22 _ H locs hw_22 hP hD hS => ?_)
                have hw_22 : r_22 = 0 := hw_22
                obtain ⟨t_23, et_23⟩ : ∃ z, z = sN t 0 2 := ⟨_, rfl⟩
                have hP : va_P (dC, dI) CLS (wM ad T t_23) H := by rw [et_23]; exact hP
                have hD : va_D A (wM ad T t_23) := by rw [et_23]; exact hD
                have hfin : t_23 = if okL a0 a1 a2 a3 then (if t.2.2.2 4 = 10 then sN t 0 2 else yl a0 a1 a2 a3 t) else sN t 0 1 := by
                  rw [if_pos ⟨c_1, c_4, c_7, c_11, c_15, c_19⟩, if_pos c_20]
                  assumption
                rw [hfin] at hP hD
                subst hQ
                have hpost : (r_22 : Int32) = if okL a0 a1 a2 a3 then (if t.2.2.2 4 = 10 then 0 else nI (t.2.2.2 4 + 1)) else 0 := by
                  rw [if_pos ⟨c_1, c_4, c_7, c_11, c_15, c_19⟩, if_pos c_20]
                  assumption
                exact W.iret (v := r_22) hx hb hr (fun t9 ht hW => ⟨⟨r_22, (), rfl, hpost, by rw [ht]; exact hP, va_K.moved hW.alike hK, hD⟩, hS.F ht⟩) hS.2.2 de_M_limit_76
            · skip
              have c_19 := bz_f hw_18 c_19
              refine lv_aload_n hx hb de_M_limit_56 rfl (lv_at hl 1 rfl) ?_
              refine lv_iconst (v := 1) hx hb de_M_limit_57 (by decide) ?_
              refine cl_Vi (As := [.int 1]) (rest := []) ⟨hx, hb, hml, hown, hts⟩ (mt_M_fails l dC dI ad T t 1) (cwV 1 hts (uw_V uw_845 uw_847 uw_18 uw_36 uw_848) rfl rfl rfl (by decide +kernel) ⟨Nat.le_of_ble_eq_true rfl, Nat.le_of_ble_eq_true rfl⟩) (va_recv hK hP (ci := 9) (q0 := 0) rfl rfl) rfl hl.1 rfl (Nat.le_of_ble_eq_true rfl) de_M_limit_58 ⟨Nat.zero_le _, Nat.zero_le _⟩ hK hN hP hD hS hA (fun r_24 _ H locs hw_24 hP hD hS => ?_)
              have hw_24 : r_24 = 0 := hw_24
              obtain ⟨t_25, et_25⟩ : ∃ z, z = sN t 0 1 := ⟨_, rfl⟩
              have hP : va_P (dC, dI) CLS (wM ad T t_25) H := by rw [et_25]; exact hP
              have hD : va_D A (wM ad T t_25) := by rw [et_25]; exact hD
              have hfin : t_25 = if okL a0 a1 a2 a3 then (if t.2.2.2 4 = 10 then sN t 0 2 else yl a0 a1 a2 a3 t) else sN t 0 1 := by
                rw [if_neg (fun h => c_19 h.2.2.2.2.2)]
                assumption
              rw [hfin] at hP hD
              subst hQ
              have hpost : (r_24 : Int32) = if okL a0 a1 a2 a3 then (if t.2.2.2 4 = 10 then 0 else nI (t.2.2.2 4 + 1)) else 0 := by
                rw [if_neg (fun h => c_19 h.2.2.2.2.2)]
                assumption
              exact W.iret (v := r_24) hx hb hr (fun t9 ht hW => ⟨⟨r_24, (), rfl, hpost, by rw [ht]; exact hP, va_K.moved hW.alike hK, hD⟩, hS.F ht⟩) hS.2.2 de_M_limit_61
set_option maxHeartbeats 4000000 in
set_option maxRecDepth 100000 in
theorem mt_M_isTankThere (l : Launch) (dC : Nat → ClassId) (dI : Nat → Nat → Nat) (ad : Nat → Nat) (T : Nat → ClassId) (t : St) (a0 : Int32) (hI : IvM t) (sz : Nat) : Met l yn_M_isTankThere (.code yn_M_isTankThere cd_M_isTankThere 2 (some .boolean) :: UW) ({ frames := 0, cells := 0, slots := 0, locals := 0 } : Room) (va_Pc [.ref (ad 0), .int a0] (Pw (dC, dI) CLS (TY T) (wM ad T t) sz)) (va_Qi (fun (r : Int32) (_ : Unit) => bz r (x_th a0 (t.2.2.2 2))) (Bw (dC, dI) CLS (TY T) (fun _ : Unit => (wM ad T t)) (va_A (wM ad T t) sz)) (va_A (wM ad T t) sz)) 0 0 (va_A (wM ad T t) sz) := by
  refine Met.ofW (cc := cd_M_isTankThere) (maxL := 2) (ret := (some .boolean)) (by decide) rfl ?_
  intro p e s m args below meth c s₁ B hml hv
  obtain ⟨rfl, hsz, hP, hK, hD0, hN⟩ := hv
  have hx := B.exec
  have hb := B.bytes
  have hr := B.returns
  have hts : ∀ w ∈ UW, w.before _ s = true := fun w h => atoms_spec (ws := .code yn_M_isTankThere cd_M_isTankThere 2 (some .boolean) :: UW) B.pre w (List.mem_cons_of_mem _ h)
  have hown : s.vm.findClass "StabilitySumsModel" = some m.cls := findClass_of_methodNamed B.named
  have hlocks := B.notSynchronized
  subst hsz
  have hD := hD0.self (sz := s.heap.size)
  generalize hAe : va_A (wM ad T t) s.heap.size = A at hD ⊢
  have hA : ∀ q : Nat, s.heap.size ≤ q → A q := fun q h => by rw [← hAe]; exact Or.inr h
  have hS : va_S A s.heap s.heap [] := va_S.rf
  have hl := lv_entry ([.ref (ad 0), .int a0]) (n := 2) (Nat.le_of_ble_eq_true rfl)
  rw [lg_entry_eq]
  generalize (lg_sl ([.ref (ad 0), .int a0]) ++ List.replicate (2 - (lg_sl ([.ref (ad 0), .int a0])).length) Slot.unset).toArray = ls at hl ⊢
  have hl : lv_has ls 2 [(0, .ref (ad 0)), (1, .int a0)] := hl
  generalize hQ : MQ below _ _ s 0 0 A = Q
  obtain ⟨hI1, hI2, hI3, hI4, hI5⟩ := hI
  refine lv_iload_n hx hb de_M_isTankThere_0 rfl (lv_at hl 1 rfl) ?_
  refine lv_if_lt (tgt := 16) hx hb de_M_isTankThere_1 (by decide) (fun c_1 => ?_) (fun c_1 => ?_)
  · skip
    refine lv_iconst (v := 0) hx hb de_M_isTankThere_16 (by decide) ?_
    subst hQ
    have hpost : bz 0 (x_th a0 (t.2.2.2 2)) := by
      first | exact Or.inl ⟨rfl, ⟨c_1, nope⟩⟩ | exact Or.inr ⟨rfl, fun h => h.1 c_1⟩ | exact Or.inr ⟨rfl, fun h => h.2 c_1⟩
    exact W.zret (v := 0) hx hb hr (bz_nar hpost) (fun t9 ht hW => ⟨⟨0, (), rfl, hpost, by rw [ht]; exact hP, va_K.moved hW.alike hK, hD⟩, hS.F ht⟩) hS.2.2 de_M_isTankThere_17
  · skip
    refine lv_iload_n hx hb de_M_isTankThere_4 rfl (lv_at hl 1 rfl) ?_
    refine lv_aload_n hx hb de_M_isTankThere_5 rfl (lv_at hl 0 rfl) ?_
    refine va_get (D := (dC, dI)) (ci := 9) (v := .int (nI (t.2.2.2 2))) (C := "StabilitySumsModel") (T := TB_M) (N := 33) hx hb hts ui_M hown hK hP 0 rfl rfl 6 (by decide) (hts _ uw_702) (fun _ h9 => h9) rfl de_M_isTankThere_6 ?_
    refine lv_icmp_ge (tgt := 16) hx hb de_M_isTankThere_9 (by decide) (fun c_2 => ?_) (fun c_2 => ?_)
    · skip
      refine lv_iconst (v := 0) hx hb de_M_isTankThere_16 (by decide) ?_
      subst hQ
      have hpost : bz 0 (x_th a0 (t.2.2.2 2)) := by
        first | exact Or.inl ⟨rfl, ⟨c_1, c_2⟩⟩ | exact Or.inr ⟨rfl, fun h => h.1 c_2⟩ | exact Or.inr ⟨rfl, fun h => h.2 c_2⟩
      exact W.zret (v := 0) hx hb hr (bz_nar hpost) (fun t9 ht hW => ⟨⟨0, (), rfl, hpost, by rw [ht]; exact hP, va_K.moved hW.alike hK, hD⟩, hS.F ht⟩) hS.2.2 de_M_isTankThere_17
    · skip
      refine lv_iconst (v := 1) hx hb de_M_isTankThere_12 (by decide) ?_
      refine lv_goto (tgt := 17) hx hb de_M_isTankThere_13 (by decide) ?_
      subst hQ
      have hpost : bz 1 (x_th a0 (t.2.2.2 2)) := by
        first | exact Or.inl ⟨rfl, ⟨c_1, c_2⟩⟩ | exact Or.inr ⟨rfl, fun h => h.1 c_2⟩ | exact Or.inr ⟨rfl, fun h => h.2 c_2⟩
      exact W.zret (v := 1) hx hb hr (bz_nar hpost) (fun t9 ht hW => ⟨⟨1, (), rfl, hpost, by rw [ht]; exact hP, va_K.moved hW.alike hK, hD⟩, hS.F ht⟩) hS.2.2 de_M_isTankThere_17
set_option maxHeartbeats 4000000 in
set_option maxRecDepth 100000 in
theorem mt_M_filled (l : Launch) (dC : Nat → ClassId) (dI : Nat → Nat → Nat) (ad : Nat → Nat) (T : Nat → ClassId) (t : St) (a0 : Int32) (a1 : Int64) (hI : IvM t) (sz : Nat) : Met l yn_M_filled (.code yn_M_filled cd_M_filled 4 (some .int) :: UW) ({ frames := 1, cells := 0, slots := 0, locals := 25 } : Room) (va_Pc [.ref (ad 0), .int a0, .long a1] (Pw (dC, dI) CLS (TY T) (wM ad T t) sz)) (va_Qi (fun (r : Int32) (_ : Unit) => r = if x_th a0 (t.2.2.2 2) then (if x_in a1 0 (t.1 4 a0.toNatClampNeg) then 1 else 0) else 0) (Bw (dC, dI) CLS (TY T) (fun _ : Unit => (wM ad T (if x_th a0 (t.2.2.2 2) then (if x_in a1 0 (t.1 4 a0.toNatClampNeg) then sL (sN t 0 0) 9 a0.toNatClampNeg a1 else sN t 0 0) else sN t 0 1))) (va_A (wM ad T t) sz)) (va_A (wM ad T t) sz)) 0 0 (va_A (wM ad T t) sz) := by
  refine Met.ofW (cc := cd_M_filled) (maxL := 4) (ret := (some .int)) (by decide) rfl ?_
  intro p e s m args below meth c s₁ B hml hv
  obtain ⟨rfl, hsz, hP, hK, hD0, hN⟩ := hv
  have hx := B.exec
  have hb := B.bytes
  have hr := B.returns
  have hts : ∀ w ∈ UW, w.before _ s = true := fun w h => atoms_spec (ws := .code yn_M_filled cd_M_filled 4 (some .int) :: UW) B.pre w (List.mem_cons_of_mem _ h)
  have hown : s.vm.findClass "StabilitySumsModel" = some m.cls := findClass_of_methodNamed B.named
  have hlocks := B.notSynchronized
  subst hsz
  have hD := hD0.self (sz := s.heap.size)
  generalize hAe : va_A (wM ad T t) s.heap.size = A at hD ⊢
  have hA : ∀ q : Nat, s.heap.size ≤ q → A q := fun q h => by rw [← hAe]; exact Or.inr h
  have hS : va_S A s.heap s.heap [] := va_S.rf
  have hl := lv_entry ([.ref (ad 0), .int a0, .long a1]) (n := 4) (Nat.le_of_ble_eq_true rfl)
  rw [lg_entry_eq]
  generalize (lg_sl ([.ref (ad 0), .int a0, .long a1]) ++ List.replicate (4 - (lg_sl ([.ref (ad 0), .int a0, .long a1])).length) Slot.unset).toArray = ls at hl ⊢
  have hl : lv_has ls 4 [(0, .ref (ad 0)), (1, .int a0), (2, .long a1)] := hl
  generalize hQ : MQ below _ _ s 0 0 A = Q
  obtain ⟨hI1, hI2, hI3, hI4, hI5⟩ := hI
  refine lv_aload_n hx hb de_M_filled_0 rfl (lv_at hl 0 rfl) ?_
  refine lv_iload_n hx hb de_M_filled_1 rfl (lv_at hl 1 rfl) ?_
  refine cl_Vi (As := [.int a0]) (rest := []) ⟨hx, hb, hml, hown, hts⟩ (mt_M_isTankThere l dC dI ad T t a0 (show IvM t from (by refine ⟨?_, ?_, ?_, ?_, ?_⟩ <;> omega))) (cwV 1 hts (uw_V uw_878 uw_880 uw_21 uw_36 uw_881) rfl rfl rfl (by decide +kernel) ⟨Nat.le_of_ble_eq_true rfl, Nat.le_of_ble_eq_true rfl⟩) (va_recv hK hP (ci := 9) (q0 := 0) rfl rfl) rfl hl.1 rfl (Nat.le_of_ble_eq_true rfl) de_M_filled_2 ⟨Nat.zero_le _, Nat.zero_le _⟩ hK hN hP hD hS hA (fun r_1 _ H locs hw_1 hP hD hS => ?_)
  have hw_1 : bz r_1 (x_th a0 (t.2.2.2 2)) := hw_1
  refine lv_if_ne (tgt := 14) hx hb de_M_filled_5 (by decide) (fun c_2 => ?_) (fun c_2 => ?_)
  · skip
    have c_2 := bz_t hw_1 c_2
    refine lv_aload_n hx hb de_M_filled_14 rfl (lv_at hl 0 rfl) ?_
    refine lv_iconst (v := 0) hx hb de_M_filled_15 (by decide) ?_
    refine va_put (D := (dC, dI)) (ci := 9) (v := .int 0) (ty := .int) (C := "StabilitySumsModel") (T := TB_M) (N := 33) hx hb hts ui_M tt_M tk_M nm_M hown hK hP hD hS 0 rfl rfl 0 (by decide) (hts _ uw_696) (fun _ h9 => h9) rfl (by decide +kernel) rfl rfl (Nat.le_of_ble_eq_true rfl) de_M_filled_16 (fun H locs hP hD hS => ?_)
    have hP : va_P (dC, dI) CLS (wM ad T (sN t 0 0)) H := hP
    have hD : va_D A (wM ad T (sN t 0 0)) := hD
    refine lv_lload_n hx hb de_M_filled_19 rfl (lv_at hl 2 rfl) ?_
    refine lv_lconst (v := 0) hx hb de_M_filled_20 (by decide) ?_
    refine lv_aload_n hx hb de_M_filled_21 rfl (lv_at hl 0 rfl) ?_
    refine va_get (D := (dC, dI)) (ci := 9) (v := .ref (ad 5)) (C := "StabilitySumsModel") (T := TB_M) (N := 33) hx hb hts ui_M hown hK hP 0 rfl rfl 7 (by decide) (hts _ uw_703) (fun _ h9 => h9) rfl de_M_filled_22 ?_
    refine lv_iload_n hx hb de_M_filled_25 rfl (lv_at hl 1 rfl) ?_
    have hix_26 : a0 = nI a0.toNatClampNeg := cl_eq c_2.1
    refine rx_lald (f := t.1 4) (j := a0.toNatClampNeg) hx hb hK hP 5 0 rfl rfl (Nat.lt_of_lt_of_le (cl_lt c_2.1 c_2.2 (by omega)) (by omega)) (by decide) de_M_filled_26 hix_26 ?_
    refine cl_Si (As := [.long a1, .long 0, .long (t.1 4 a0.toNatClampNeg)]) (rest := []) ⟨hx, hb, hml, hown, hts⟩ (mt_M_in l dC dI ad T (sN t 0 0) a1 0 (t.1 4 a0.toNatClampNeg)) (va_cwS 3 hts (uw_S uw_842 uw_843 uw_36 uw_844) rfl rfl rfl (by decide +kernel) ⟨Nat.le_of_ble_eq_true rfl, Nat.le_of_ble_eq_true rfl⟩) rfl hl.1 rfl (Nat.le_of_ble_eq_true rfl) de_M_filled_27 ⟨Nat.zero_le _, Nat.zero_le _⟩ hK hN hP hD hS hA (fun r_3 _ H locs hw_3 hP hD hS => ?_)
    have hw_3 : bz r_3 (x_in a1 0 (t.1 4 a0.toNatClampNeg)) := hw_3
    refine lv_if_ne (tgt := 35) hx hb de_M_filled_30 (by decide) (fun c_4 => ?_) (fun c_4 => ?_)
    · skip
      have c_4 := bz_t hw_3 c_4
      refine lv_aload_n hx hb de_M_filled_35 rfl (lv_at hl 0 rfl) ?_
      refine va_get (D := (dC, dI)) (ci := 9) (v := .ref (ad 10)) (C := "StabilitySumsModel") (T := TB_M) (N := 33) hx hb hts ui_M hown hK hP 0 rfl rfl 12 (by decide) (hts _ uw_708) (fun _ h9 => h9) rfl de_M_filled_36 ?_
      refine lv_iload_n hx hb de_M_filled_39 rfl (lv_at hl 1 rfl) ?_
      refine lv_lload_n hx hb de_M_filled_40 rfl (lv_at hl 2 rfl) ?_
      have hix_41 : a0 = nI a0.toNatClampNeg := cl_eq c_2.1
      refine rx_last (f := t.1 9) (j := a0.toNatClampNeg) (x := a1) hx hb hK hP hD hS 10 0 rfl rfl (Nat.lt_of_lt_of_le (cl_lt c_2.1 c_2.2 (by omega)) (by omega)) (by decide) de_M_filled_41 hix_41 (fun H locs hP hD hS => ?_)
      have hP : va_P (dC, dI) CLS (wM ad T (sL (sN t 0 0) 9 a0.toNatClampNeg a1)) H := hP
      have hD : va_D A (wM ad T (sL (sN t 0 0) 9 a0.toNatClampNeg a1)) := hD
      refine lv_iconst (v := 1) hx hb de_M_filled_42 (by decide) ?_
      have hfin : (sL (sN t 0 0) 9 a0.toNatClampNeg a1) = if x_th a0 (t.2.2.2 2) then (if x_in a1 0 (t.1 4 a0.toNatClampNeg) then sL (sN t 0 0) 9 a0.toNatClampNeg a1 else sN t 0 0) else sN t 0 1 := by
        rw [if_pos c_2, if_pos c_4]; first | done | assumption | rfl
      rw [hfin] at hP hD
      subst hQ
      have hpost : (1 : Int32) = if x_th a0 (t.2.2.2 2) then (if x_in a1 0 (t.1 4 a0.toNatClampNeg) then 1 else 0) else 0 := by
        rw [if_pos c_2, if_pos c_4]; first | done | assumption | rfl
      exact W.iret (v := 1) hx hb hr (fun t9 ht hW => ⟨⟨1, (), rfl, hpost, by rw [ht]; exact hP, va_K.moved hW.alike hK, hD⟩, hS.F ht⟩) hS.2.2 de_M_filled_43
    · skip
      have c_4 := bz_f hw_3 c_4
      refine lv_iconst (v := 0) hx hb de_M_filled_33 (by decide) ?_
      have hfin : (sN t 0 0) = if x_th a0 (t.2.2.2 2) then (if x_in a1 0 (t.1 4 a0.toNatClampNeg) then sL (sN t 0 0) 9 a0.toNatClampNeg a1 else sN t 0 0) else sN t 0 1 := by
        rw [if_pos c_2, if_neg c_4]; first | done | assumption | rfl
      rw [hfin] at hP hD
      subst hQ
      have hpost : (0 : Int32) = if x_th a0 (t.2.2.2 2) then (if x_in a1 0 (t.1 4 a0.toNatClampNeg) then 1 else 0) else 0 := by
        rw [if_pos c_2, if_neg c_4]; first | done | assumption | rfl
      exact W.iret (v := 0) hx hb hr (fun t9 ht hW => ⟨⟨0, (), rfl, hpost, by rw [ht]; exact hP, va_K.moved hW.alike hK, hD⟩, hS.F ht⟩) hS.2.2 de_M_filled_34
  · skip
    have c_2 := bz_f hw_1 c_2
    refine lv_aload_n hx hb de_M_filled_8 rfl (lv_at hl 0 rfl) ?_
    refine lv_iconst (v := 1) hx hb de_M_filled_9 (by decide) ?_
    refine cl_Vi (As := [.int 1]) (rest := []) ⟨hx, hb, hml, hown, hts⟩ (mt_M_fails l dC dI ad T t 1) (cwV 1 hts (uw_V uw_845 uw_847 uw_18 uw_36 uw_848) rfl rfl rfl (by decide +kernel) ⟨Nat.le_of_ble_eq_true rfl, Nat.le_of_ble_eq_true rfl⟩) (va_recv hK hP (ci := 9) (q0 := 0) rfl rfl) rfl hl.1 rfl (Nat.le_of_ble_eq_true rfl) de_M_filled_10 ⟨Nat.zero_le _, Nat.zero_le _⟩ hK hN hP hD hS hA (fun r_5 _ H locs hw_5 hP hD hS => ?_)
    have hw_5 : r_5 = 0 := hw_5
    obtain ⟨t_6, et_6⟩ : ∃ z, z = sN t 0 1 := ⟨_, rfl⟩
    have hP : va_P (dC, dI) CLS (wM ad T t_6) H := by rw [et_6]; exact hP
    have hD : va_D A (wM ad T t_6) := by rw [et_6]; exact hD
    have hfin : t_6 = if x_th a0 (t.2.2.2 2) then (if x_in a1 0 (t.1 4 a0.toNatClampNeg) then sL (sN t 0 0) 9 a0.toNatClampNeg a1 else sN t 0 0) else sN t 0 1 := by
      rw [if_neg c_2]; first | done | assumption | rfl
    rw [hfin] at hP hD
    subst hQ
    have hpost : (r_5 : Int32) = if x_th a0 (t.2.2.2 2) then (if x_in a1 0 (t.1 4 a0.toNatClampNeg) then 1 else 0) else 0 := by
      rw [if_neg c_2]; first | done | assumption | rfl
    exact W.iret (v := r_5) hx hb hr (fun t9 ht hW => ⟨⟨r_5, (), rfl, hpost, by rw [ht]; exact hP, va_K.moved hW.alike hK, hD⟩, hS.F ht⟩) hS.2.2 de_M_filled_13
set_option maxHeartbeats 4000000 in
set_option maxRecDepth 100000 in
theorem mt_M_shear (l : Launch) (dC : Nat → ClassId) (dI : Nat → Nat → Nat) (ad : Nat → Nat) (T : Nat → ClassId) (t : St) (a0 : Int64) (hI : IvM t) (hz : HZ (y_pre (sN t 0 0))) (sz : Nat) : Met l yn_M_shear (.code yn_M_shear cd_M_shear 3 (some .long) :: UW) ({ frames := 2, cells := 0, slots := 0, locals := 51 } : Room) (va_Pc [.ref (ad 0), .long a0] (Pw (dC, dI) CLS (TY T) (wM ad T t) sz)) (va_Ql (fun (r : Int64) (_ : Unit) => r = if x_pl a0 then y_shear a0 (y_pre (sN t 0 0)) else 0) (Bw (dC, dI) CLS (TY T) (fun _ : Unit => (wM ad T (if x_pl a0 then y_pre (sN t 0 0) else sN t 0 1))) (va_A (wM ad T t) sz)) (va_A (wM ad T t) sz)) 0 0 (va_A (wM ad T t) sz) := by
  refine Met.ofW (cc := cd_M_shear) (maxL := 3) (ret := (some .long)) (by decide) rfl ?_
  intro p e s m args below meth c s₁ B hml hv
  obtain ⟨rfl, hsz, hP, hK, hD0, hN⟩ := hv
  have hx := B.exec
  have hb := B.bytes
  have hr := B.returns
  have hts : ∀ w ∈ UW, w.before _ s = true := fun w h => atoms_spec (ws := .code yn_M_shear cd_M_shear 3 (some .long) :: UW) B.pre w (List.mem_cons_of_mem _ h)
  have hown : s.vm.findClass "StabilitySumsModel" = some m.cls := findClass_of_methodNamed B.named
  have hlocks := B.notSynchronized
  subst hsz
  have hD := hD0.self (sz := s.heap.size)
  generalize hAe : va_A (wM ad T t) s.heap.size = A at hD ⊢
  have hA : ∀ q : Nat, s.heap.size ≤ q → A q := fun q h => by rw [← hAe]; exact Or.inr h
  have hS : va_S A s.heap s.heap [] := va_S.rf
  have hl := lv_entry ([.ref (ad 0), .long a0]) (n := 3) (Nat.le_of_ble_eq_true rfl)
  rw [lg_entry_eq]
  generalize (lg_sl ([.ref (ad 0), .long a0]) ++ List.replicate (3 - (lg_sl ([.ref (ad 0), .long a0])).length) Slot.unset).toArray = ls at hl ⊢
  have hl : lv_has ls 3 [(0, .ref (ad 0)), (1, .long a0)] := hl
  generalize hQ : MQ below _ _ s 0 0 A = Q
  obtain ⟨hI1, hI2, hI3, hI4, hI5⟩ := hI
  refine lv_lload_n hx hb de_M_shear_0 rfl (lv_at hl 1 rfl) ?_
  refine cl_Si (As := [.long a0]) (rest := []) ⟨hx, hb, hml, hown, hts⟩ (mt_M_isPlace l dC dI ad T t a0) (va_cwS 1 hts (uw_S uw_838 uw_839 uw_36 uw_840) rfl rfl rfl (by decide +kernel) ⟨Nat.le_of_ble_eq_true rfl, Nat.le_of_ble_eq_true rfl⟩) rfl hl.1 rfl (Nat.le_of_ble_eq_true rfl) de_M_shear_1 ⟨Nat.zero_le _, Nat.zero_le _⟩ hK hN hP hD hS hA (fun r_1 _ H locs hw_1 hP hD hS => ?_)
  have hw_1 : bz r_1 (x_pl a0) := hw_1
  refine lv_if_ne (tgt := 14) hx hb de_M_shear_4 (by decide) (fun c_2 => ?_) (fun c_2 => ?_)
  · skip
    have c_2 := bz_t hw_1 c_2
    refine lv_aload_n hx hb de_M_shear_14 rfl (lv_at hl 0 rfl) ?_
    refine lv_iconst (v := 0) hx hb de_M_shear_15 (by decide) ?_
    refine va_put (D := (dC, dI)) (ci := 9) (v := .int 0) (ty := .int) (C := "StabilitySumsModel") (T := TB_M) (N := 33) hx hb hts ui_M tt_M tk_M nm_M hown hK hP hD hS 0 rfl rfl 0 (by decide) (hts _ uw_696) (fun _ h9 => h9) rfl (by decide +kernel) rfl rfl (Nat.le_of_ble_eq_true rfl) de_M_shear_16 (fun H locs hP hD hS => ?_)
    have hP : va_P (dC, dI) CLS (wM ad T (sN t 0 0)) H := hP
    have hD : va_D A (wM ad T (sN t 0 0)) := hD
    refine lv_aload_n hx hb de_M_shear_19 rfl (lv_at hl 0 rfl) ?_
    refine cl_Vv (As := []) (rest := []) ⟨hx, hb, hml, hown, hts⟩ (mt_M_present l dC dI ad T (sN t 0 0) (show IvM t from (by refine ⟨?_, ?_, ?_, ?_, ?_⟩ <;> omega))) (cwV 0 hts (uw_V uw_804 uw_806 uw_13 uw_36 uw_807) rfl rfl rfl (by decide +kernel) ⟨Nat.le_of_ble_eq_true rfl, Nat.le_of_ble_eq_true rfl⟩) (va_recv hK hP (ci := 9) (q0 := 0) rfl rfl) rfl hl.1 rfl (Nat.le_of_ble_eq_true rfl) de_M_shear_20 ⟨Nat.zero_le _, Nat.zero_le _⟩ hK hN hP hD hS hA (fun _ H locs hw_3 hP hD hS => ?_)
    obtain ⟨t_4, et_4⟩ : ∃ z, z = y_pre (sN t 0 0) := ⟨_, rfl⟩
    have hP : va_P (dC, dI) CLS (wM ad T t_4) H := by rw [et_4]; exact hP
    have hD : va_D A (wM ad T t_4) := by rw [et_4]; exact hD
    obtain ⟨_, _, _, _, _⟩ : N5q t_4 t := by rw [et_4]; have h7 := n6to5 (a := y_pre (sN t 0 0)) (b := (sN t 0 0)) (y_pre_6 _); exact h7
    refine lv_aload_n hx hb de_M_shear_23 rfl (lv_at hl 0 rfl) ?_
    refine lv_lload_n hx hb de_M_shear_24 rfl (lv_at hl 1 rfl) ?_
    refine cl_Vl (As := [.long a0]) (rest := []) ⟨hx, hb, hml, hown, hts⟩ (mt_M_shearAt l dC dI ad T t_4 a0 (show IvM t_4 from (by refine ⟨?_, ?_, ?_, ?_, ?_⟩ <;> omega)) (by rw [et_4]; exact hz)) (cwV 1 hts (uw_V uw_849 uw_851 uw_19 uw_36 uw_852) rfl rfl rfl (by decide +kernel) ⟨Nat.le_of_ble_eq_true rfl, Nat.le_of_ble_eq_true rfl⟩) (va_recv hK hP (ci := 9) (q0 := 0) rfl rfl) rfl hl.1 rfl (Nat.le_of_ble_eq_true rfl) de_M_shear_25 ⟨Nat.zero_le _, Nat.zero_le _⟩ hK hN hP hD hS hA (fun r_5 _ H locs hw_5 hP hD hS => ?_)
    have hw_5 : r_5 = y_shear a0 t_4 := hw_5
    have hfin : t_4 = if x_pl a0 then y_pre (sN t 0 0) else sN t 0 1 := by
      rw [if_pos c_2]; assumption
    rw [hfin] at hP hD
    subst hQ
    have hpost : (r_5 : Int64) = if x_pl a0 then y_shear a0 (y_pre (sN t 0 0)) else 0 := by
      rw [if_pos c_2]; first | (subst_vars; rfl) | (subst_vars; decide)
    exact W.lret (v := r_5) hx hb hr (fun t9 ht hW => ⟨⟨r_5, (), rfl, hpost, by rw [ht]; exact hP, va_K.moved hW.alike hK, hD⟩, hS.F ht⟩) hS.2.2 de_M_shear_28
  · skip
    have c_2 := bz_f hw_1 c_2
    refine lv_aload_n hx hb de_M_shear_7 rfl (lv_at hl 0 rfl) ?_
    refine lv_iconst (v := 1) hx hb de_M_shear_8 (by decide) ?_
    refine cl_Vi (As := [.int 1]) (rest := []) ⟨hx, hb, hml, hown, hts⟩ (mt_M_fails l dC dI ad T t 1) (cwV 1 hts (uw_V uw_845 uw_847 uw_18 uw_36 uw_848) rfl rfl rfl (by decide +kernel) ⟨Nat.le_of_ble_eq_true rfl, Nat.le_of_ble_eq_true rfl⟩) (va_recv hK hP (ci := 9) (q0 := 0) rfl rfl) rfl hl.1 rfl (Nat.le_of_ble_eq_true rfl) de_M_shear_9 ⟨Nat.zero_le _, Nat.zero_le _⟩ hK hN hP hD hS hA (fun r_6 _ H locs hw_6 hP hD hS => ?_)
    have hw_6 : r_6 = 0 := hw_6
    obtain ⟨t_7, et_7⟩ : ∃ z, z = sN t 0 1 := ⟨_, rfl⟩
    have hP : va_P (dC, dI) CLS (wM ad T t_7) H := by rw [et_7]; exact hP
    have hD : va_D A (wM ad T t_7) := by rw [et_7]; exact hD
    refine lv_i2l (v := r_6.toInt64) hx hb de_M_shear_12 rfl ?_
    have hfin : t_7 = if x_pl a0 then y_pre (sN t 0 0) else sN t 0 1 := by
      rw [if_neg c_2]; assumption
    rw [hfin] at hP hD
    subst hQ
    have hpost : (r_6.toInt64 : Int64) = if x_pl a0 then y_shear a0 (y_pre (sN t 0 0)) else 0 := by
      rw [if_neg c_2]; first | (subst_vars; rfl) | (subst_vars; decide)
    exact W.lret (v := r_6.toInt64) hx hb hr (fun t9 ht hW => ⟨⟨r_6.toInt64, (), rfl, hpost, by rw [ht]; exact hP, va_K.moved hW.alike hK, hD⟩, hS.F ht⟩) hS.2.2 de_M_shear_13
set_option maxHeartbeats 4000000 in
set_option maxRecDepth 100000 in
theorem mt_M_bending (l : Launch) (dC : Nat → ClassId) (dI : Nat → Nat → Nat) (ad : Nat → Nat) (T : Nat → ClassId) (t : St) (a0 : Int64) (hI : IvM t) (hz : HZ (y_pre (sN t 0 0))) (sz : Nat) : Met l yn_M_bending (.code yn_M_bending cd_M_bending 3 (some .long) :: UW) ({ frames := 2, cells := 0, slots := 0, locals := 51 } : Room) (va_Pc [.ref (ad 0), .long a0] (Pw (dC, dI) CLS (TY T) (wM ad T t) sz)) (va_Ql (fun (r : Int64) (_ : Unit) => r = if x_pl a0 then y_bend a0 (y_pre (sN t 0 0)) else 0) (Bw (dC, dI) CLS (TY T) (fun _ : Unit => (wM ad T (if x_pl a0 then y_pre (sN t 0 0) else sN t 0 1))) (va_A (wM ad T t) sz)) (va_A (wM ad T t) sz)) 0 0 (va_A (wM ad T t) sz) := by
  refine Met.ofW (cc := cd_M_bending) (maxL := 3) (ret := (some .long)) (by decide) rfl ?_
  intro p e s m args below meth c s₁ B hml hv
  obtain ⟨rfl, hsz, hP, hK, hD0, hN⟩ := hv
  have hx := B.exec
  have hb := B.bytes
  have hr := B.returns
  have hts : ∀ w ∈ UW, w.before _ s = true := fun w h => atoms_spec (ws := .code yn_M_bending cd_M_bending 3 (some .long) :: UW) B.pre w (List.mem_cons_of_mem _ h)
  have hown : s.vm.findClass "StabilitySumsModel" = some m.cls := findClass_of_methodNamed B.named
  have hlocks := B.notSynchronized
  subst hsz
  have hD := hD0.self (sz := s.heap.size)
  generalize hAe : va_A (wM ad T t) s.heap.size = A at hD ⊢
  have hA : ∀ q : Nat, s.heap.size ≤ q → A q := fun q h => by rw [← hAe]; exact Or.inr h
  have hS : va_S A s.heap s.heap [] := va_S.rf
  have hl := lv_entry ([.ref (ad 0), .long a0]) (n := 3) (Nat.le_of_ble_eq_true rfl)
  rw [lg_entry_eq]
  generalize (lg_sl ([.ref (ad 0), .long a0]) ++ List.replicate (3 - (lg_sl ([.ref (ad 0), .long a0])).length) Slot.unset).toArray = ls at hl ⊢
  have hl : lv_has ls 3 [(0, .ref (ad 0)), (1, .long a0)] := hl
  generalize hQ : MQ below _ _ s 0 0 A = Q
  obtain ⟨hI1, hI2, hI3, hI4, hI5⟩ := hI
  refine lv_lload_n hx hb de_M_bending_0 rfl (lv_at hl 1 rfl) ?_
  refine cl_Si (As := [.long a0]) (rest := []) ⟨hx, hb, hml, hown, hts⟩ (mt_M_isPlace l dC dI ad T t a0) (va_cwS 1 hts (uw_S uw_838 uw_839 uw_36 uw_840) rfl rfl rfl (by decide +kernel) ⟨Nat.le_of_ble_eq_true rfl, Nat.le_of_ble_eq_true rfl⟩) rfl hl.1 rfl (Nat.le_of_ble_eq_true rfl) de_M_bending_1 ⟨Nat.zero_le _, Nat.zero_le _⟩ hK hN hP hD hS hA (fun r_1 _ H locs hw_1 hP hD hS => ?_)
  have hw_1 : bz r_1 (x_pl a0) := hw_1
  refine lv_if_ne (tgt := 14) hx hb de_M_bending_4 (by decide) (fun c_2 => ?_) (fun c_2 => ?_)
  · skip
    have c_2 := bz_t hw_1 c_2
    refine lv_aload_n hx hb de_M_bending_14 rfl (lv_at hl 0 rfl) ?_
    refine lv_iconst (v := 0) hx hb de_M_bending_15 (by decide) ?_
    refine va_put (D := (dC, dI)) (ci := 9) (v := .int 0) (ty := .int) (C := "StabilitySumsModel") (T := TB_M) (N := 33) hx hb hts ui_M tt_M tk_M nm_M hown hK hP hD hS 0 rfl rfl 0 (by decide) (hts _ uw_696) (fun _ h9 => h9) rfl (by decide +kernel) rfl rfl (Nat.le_of_ble_eq_true rfl) de_M_bending_16 (fun H locs hP hD hS => ?_)
    have hP : va_P (dC, dI) CLS (wM ad T (sN t 0 0)) H := hP
    have hD : va_D A (wM ad T (sN t 0 0)) := hD
    refine lv_aload_n hx hb de_M_bending_19 rfl (lv_at hl 0 rfl) ?_
    refine cl_Vv (As := []) (rest := []) ⟨hx, hb, hml, hown, hts⟩ (mt_M_present l dC dI ad T (sN t 0 0) (show IvM t from (by refine ⟨?_, ?_, ?_, ?_, ?_⟩ <;> omega))) (cwV 0 hts (uw_V uw_804 uw_806 uw_13 uw_36 uw_807) rfl rfl rfl (by decide +kernel) ⟨Nat.le_of_ble_eq_true rfl, Nat.le_of_ble_eq_true rfl⟩) (va_recv hK hP (ci := 9) (q0 := 0) rfl rfl) rfl hl.1 rfl (Nat.le_of_ble_eq_true rfl) de_M_bending_20 ⟨Nat.zero_le _, Nat.zero_le _⟩ hK hN hP hD hS hA (fun _ H locs hw_3 hP hD hS => ?_)
    obtain ⟨t_4, et_4⟩ : ∃ z, z = y_pre (sN t 0 0) := ⟨_, rfl⟩
    have hP : va_P (dC, dI) CLS (wM ad T t_4) H := by rw [et_4]; exact hP
    have hD : va_D A (wM ad T t_4) := by rw [et_4]; exact hD
    obtain ⟨_, _, _, _, _⟩ : N5q t_4 t := by rw [et_4]; have h7 := n6to5 (a := y_pre (sN t 0 0)) (b := (sN t 0 0)) (y_pre_6 _); exact h7
    refine lv_aload_n hx hb de_M_bending_23 rfl (lv_at hl 0 rfl) ?_
    refine lv_lload_n hx hb de_M_bending_24 rfl (lv_at hl 1 rfl) ?_
    refine cl_Vl (As := [.long a0]) (rest := []) ⟨hx, hb, hml, hown, hts⟩ (mt_M_bendingAt l dC dI ad T t_4 a0 (show IvM t_4 from (by refine ⟨?_, ?_, ?_, ?_, ?_⟩ <;> omega)) (by rw [et_4]; exact hz)) (cwV 1 hts (uw_V uw_857 uw_859 uw_20 uw_36 uw_860) rfl rfl rfl (by decide +kernel) ⟨Nat.le_of_ble_eq_true rfl, Nat.le_of_ble_eq_true rfl⟩) (va_recv hK hP (ci := 9) (q0 := 0) rfl rfl) rfl hl.1 rfl (Nat.le_of_ble_eq_true rfl) de_M_bending_25 ⟨Nat.zero_le _, Nat.zero_le _⟩ hK hN hP hD hS hA (fun r_5 _ H locs hw_5 hP hD hS => ?_)
    have hw_5 : r_5 = y_bend a0 t_4 := hw_5
    have hfin : t_4 = if x_pl a0 then y_pre (sN t 0 0) else sN t 0 1 := by
      rw [if_pos c_2]; assumption
    rw [hfin] at hP hD
    subst hQ
    have hpost : (r_5 : Int64) = if x_pl a0 then y_bend a0 (y_pre (sN t 0 0)) else 0 := by
      rw [if_pos c_2]; first | (subst_vars; rfl) | (subst_vars; decide)
    exact W.lret (v := r_5) hx hb hr (fun t9 ht hW => ⟨⟨r_5, (), rfl, hpost, by rw [ht]; exact hP, va_K.moved hW.alike hK, hD⟩, hS.F ht⟩) hS.2.2 de_M_bending_28
  · skip
    have c_2 := bz_f hw_1 c_2
    refine lv_aload_n hx hb de_M_bending_7 rfl (lv_at hl 0 rfl) ?_
    refine lv_iconst (v := 1) hx hb de_M_bending_8 (by decide) ?_
    refine cl_Vi (As := [.int 1]) (rest := []) ⟨hx, hb, hml, hown, hts⟩ (mt_M_fails l dC dI ad T t 1) (cwV 1 hts (uw_V uw_845 uw_847 uw_18 uw_36 uw_848) rfl rfl rfl (by decide +kernel) ⟨Nat.le_of_ble_eq_true rfl, Nat.le_of_ble_eq_true rfl⟩) (va_recv hK hP (ci := 9) (q0 := 0) rfl rfl) rfl hl.1 rfl (Nat.le_of_ble_eq_true rfl) de_M_bending_9 ⟨Nat.zero_le _, Nat.zero_le _⟩ hK hN hP hD hS hA (fun r_6 _ H locs hw_6 hP hD hS => ?_)
    have hw_6 : r_6 = 0 := hw_6
    obtain ⟨t_7, et_7⟩ : ∃ z, z = sN t 0 1 := ⟨_, rfl⟩
    have hP : va_P (dC, dI) CLS (wM ad T t_7) H := by rw [et_7]; exact hP
    have hD : va_D A (wM ad T t_7) := by rw [et_7]; exact hD
    refine lv_i2l (v := r_6.toInt64) hx hb de_M_bending_12 rfl ?_
    have hfin : t_7 = if x_pl a0 then y_pre (sN t 0 0) else sN t 0 1 := by
      rw [if_neg c_2]; assumption
    rw [hfin] at hP hD
    subst hQ
    have hpost : (r_6.toInt64 : Int64) = if x_pl a0 then y_bend a0 (y_pre (sN t 0 0)) else 0 := by
      rw [if_neg c_2]; first | (subst_vars; rfl) | (subst_vars; decide)
    exact W.lret (v := r_6.toInt64) hx hb hr (fun t9 ht hW => ⟨⟨r_6.toInt64, (), rfl, hpost, by rw [ht]; exact hP, va_K.moved hW.alike hK, hD⟩, hS.F ht⟩) hS.2.2 de_M_bending_13
set_option maxHeartbeats 4000000 in
set_option maxRecDepth 100000 in
theorem mt_M_hull (l : Launch) (dC : Nat → ClassId) (dI : Nat → Nat → Nat) (ad : Nat → Nat) (T : Nat → ClassId) (t : St) (a0 : Int64) (a1 : Int64) (hI : IvM t) (sz : Nat) : Met l yn_M_hull (.code yn_M_hull cd_M_hull 5 (some .boolean) :: UW) ({ frames := 2, cells := 0, slots := 0, locals := 46 } : Room) (va_Pc [.ref (ad 0), .long a0, .long a1] (Pw (dC, dI) CLS (TY T) (wM ad T t) sz)) (va_Qi (fun (r : Int32) (_ : Unit) => bz r (x_hullp a0 a1)) (Bw (dC, dI) CLS (TY T) (fun _ : Unit => (wM ad T (if x_hullp a0 a1 then sF (sF (sN t 0 0) 0 a0) 1 a1 else sN t 0 0))) (va_A (wM ad T t) sz)) (va_A (wM ad T t) sz)) 0 0 (va_A (wM ad T t) sz) := by
  refine Met.ofW (cc := cd_M_hull) (maxL := 5) (ret := (some .boolean)) (by decide) rfl ?_
  intro p e s m args below meth c s₁ B hml hv
  obtain ⟨rfl, hsz, hP, hK, hD0, hN⟩ := hv
  have hx := B.exec
  have hb := B.bytes
  have hr := B.returns
  have hts : ∀ w ∈ UW, w.before _ s = true := fun w h => atoms_spec (ws := .code yn_M_hull cd_M_hull 5 (some .boolean) :: UW) B.pre w (List.mem_cons_of_mem _ h)
  have hown : s.vm.findClass "StabilitySumsModel" = some m.cls := findClass_of_methodNamed B.named
  have hlocks := B.notSynchronized
  subst hsz
  have hD := hD0.self (sz := s.heap.size)
  generalize hAe : va_A (wM ad T t) s.heap.size = A at hD ⊢
  have hA : ∀ q : Nat, s.heap.size ≤ q → A q := fun q h => by rw [← hAe]; exact Or.inr h
  have hS : va_S A s.heap s.heap [] := va_S.rf
  have hl := lv_entry ([.ref (ad 0), .long a0, .long a1]) (n := 5) (Nat.le_of_ble_eq_true rfl)
  rw [lg_entry_eq]
  generalize (lg_sl ([.ref (ad 0), .long a0, .long a1]) ++ List.replicate (5 - (lg_sl ([.ref (ad 0), .long a0, .long a1])).length) Slot.unset).toArray = ls at hl ⊢
  have hl : lv_has ls 5 [(0, .ref (ad 0)), (1, .long a0), (3, .long a1)] := hl
  generalize hQ : MQ below _ _ s 0 0 A = Q
  obtain ⟨hI1, hI2, hI3, hI4, hI5⟩ := hI
  refine lv_aload_n hx hb de_M_hull_0 rfl (lv_at hl 0 rfl) ?_
  refine lv_iconst (v := 0) hx hb de_M_hull_1 (by decide) ?_
  refine va_put (D := (dC, dI)) (ci := 9) (v := .int 0) (ty := .int) (C := "StabilitySumsModel") (T := TB_M) (N := 33) hx hb hts ui_M tt_M tk_M nm_M hown hK hP hD hS 0 rfl rfl 0 (by decide) (hts _ uw_696) (fun _ h9 => h9) rfl (by decide +kernel) rfl rfl (Nat.le_of_ble_eq_true rfl) de_M_hull_2 (fun H locs hP hD hS => ?_)
  have hP : va_P (dC, dI) CLS (wM ad T (sN t 0 0)) H := hP
  have hD : va_D A (wM ad T (sN t 0 0)) := hD
  refine lv_lload_n hx hb de_M_hull_5 rfl (lv_at hl 1 rfl) ?_
  refine cl_Si (As := [.long a0]) (rest := []) ⟨hx, hb, hml, hown, hts⟩ (mt_M_isPlace l dC dI ad T (sN t 0 0) a0) (va_cwS 1 hts (uw_S uw_838 uw_839 uw_36 uw_840) rfl rfl rfl (by decide +kernel) ⟨Nat.le_of_ble_eq_true rfl, Nat.le_of_ble_eq_true rfl⟩) rfl hl.1 rfl (Nat.le_of_ble_eq_true rfl) de_M_hull_6 ⟨Nat.zero_le _, Nat.zero_le _⟩ hK hN hP hD hS hA (fun r_1 _ H locs hw_1 hP hD hS => ?_)
  have hw_1 : bz r_1 (x_pl a0) := hw_1
  refine lv_if_eq (tgt := 25) hx hb de_M_hull_9 (by decide) (fun c_2 => ?_) (fun c_2 => ?_)
  · skip
    have c_2 := bz_f hw_1 c_2
    refine lv_iconst (v := 0) hx hb de_M_hull_25 (by decide) ?_
    have hfin : (sN t 0 0) = if x_hullp a0 a1 then sF (sF (sN t 0 0) 0 a0) 1 a1 else sN t 0 0 := by
      rw [if_neg (fun h => c_2 h.1)]
    rw [hfin] at hP hD
    subst hQ
    have hpost : bz 0 (x_hullp a0 a1) := by
      exact Or.inr ⟨rfl, (fun h => c_2 h.1)⟩
    exact W.zret (v := 0) hx hb hr (bz_nar hpost) (fun t9 ht hW => ⟨⟨0, (), rfl, hpost, by rw [ht]; exact hP, va_K.moved hW.alike hK, hD⟩, hS.F ht⟩) hS.2.2 de_M_hull_26
  · skip
    have c_2 := bz_t hw_1 c_2
    refine lv_lload_n hx hb de_M_hull_12 rfl (lv_at hl 2 rfl) ?_
    refine cl_Si (As := [.long a1]) (rest := []) ⟨hx, hb, hml, hown, hts⟩ (mt_M_isPlace l dC dI ad T (sN t 0 0) a1) (va_cwS 1 hts (uw_S uw_838 uw_839 uw_36 uw_840) rfl rfl rfl (by decide +kernel) ⟨Nat.le_of_ble_eq_true rfl, Nat.le_of_ble_eq_true rfl⟩) rfl hl.1 rfl (Nat.le_of_ble_eq_true rfl) de_M_hull_13 ⟨Nat.zero_le _, Nat.zero_le _⟩ hK hN hP hD hS hA (fun r_3 _ H locs hw_3 hP hD hS => ?_)
    have hw_3 : bz r_3 (x_pl a1) := hw_3
    refine lv_if_eq (tgt := 25) hx hb de_M_hull_16 (by decide) (fun c_4 => ?_) (fun c_4 => ?_)
    · skip
      have c_4 := bz_f hw_3 c_4
      refine lv_iconst (v := 0) hx hb de_M_hull_25 (by decide) ?_
      have hfin : (sN t 0 0) = if x_hullp a0 a1 then sF (sF (sN t 0 0) 0 a0) 1 a1 else sN t 0 0 := by
        rw [if_neg (fun h => c_4 h.2.1)]
      rw [hfin] at hP hD
      subst hQ
      have hpost : bz 0 (x_hullp a0 a1) := by
        exact Or.inr ⟨rfl, (fun h => c_4 h.2.1)⟩
      exact W.zret (v := 0) hx hb hr (bz_nar hpost) (fun t9 ht hW => ⟨⟨0, (), rfl, hpost, by rw [ht]; exact hP, va_K.moved hW.alike hK, hD⟩, hS.F ht⟩) hS.2.2 de_M_hull_26
    · skip
      have c_4 := bz_t hw_3 c_4
      refine lv_lload_n hx hb de_M_hull_19 rfl (lv_at hl 1 rfl) ?_
      refine lv_lload_n hx hb de_M_hull_20 rfl (lv_at hl 2 rfl) ?_
      refine rw_lt (tgt := 27) hx hb de_M_hull_21 de_M_hull_22 (by decide) (fun c_5 => ?_) (fun c_5 => ?_)
      · skip
        refine lv_aload_n hx hb de_M_hull_27 rfl (lv_at hl 0 rfl) ?_
        refine lv_lload_n hx hb de_M_hull_28 rfl (lv_at hl 1 rfl) ?_
        refine va_put (D := (dC, dI)) (ci := 9) (v := .long a0) (ty := .long) (C := "StabilitySumsModel") (T := TB_M) (N := 33) hx hb hts ui_M tt_M tk_M nm_M hown hK hP hD hS 0 rfl rfl 20 (by decide) (hts _ uw_716) (fun _ h9 => h9) rfl (by decide +kernel) rfl rfl (Nat.le_of_ble_eq_true rfl) de_M_hull_29 (fun H locs hP hD hS => ?_)
        have hP : va_P (dC, dI) CLS (wM ad T (sF (sN t 0 0) 0 a0)) H := hP
        have hD : va_D A (wM ad T (sF (sN t 0 0) 0 a0)) := hD
        refine lv_aload_n hx hb de_M_hull_32 rfl (lv_at hl 0 rfl) ?_
        refine lv_lload_n hx hb de_M_hull_33 rfl (lv_at hl 2 rfl) ?_
        refine va_put (D := (dC, dI)) (ci := 9) (v := .long a1) (ty := .long) (C := "StabilitySumsModel") (T := TB_M) (N := 33) hx hb hts ui_M tt_M tk_M nm_M hown hK hP hD hS 0 rfl rfl 21 (by decide) (hts _ uw_717) (fun _ h9 => h9) rfl (by decide +kernel) rfl rfl (Nat.le_of_ble_eq_true rfl) de_M_hull_34 (fun H locs hP hD hS => ?_)
        have hP : va_P (dC, dI) CLS (wM ad T (sF (sF (sN t 0 0) 0 a0) 1 a1)) H := hP
        have hD : va_D A (wM ad T (sF (sF (sN t 0 0) 0 a0) 1 a1)) := hD
        refine lv_iconst (v := 1) hx hb de_M_hull_37 (by decide) ?_
        have hfin : (sF (sF (sN t 0 0) 0 a0) 1 a1) = if x_hullp a0 a1 then sF (sF (sN t 0 0) 0 a0) 1 a1 else sN t 0 0 := by
          rw [if_pos ⟨c_2, c_4, c_5⟩]
        rw [hfin] at hP hD
        subst hQ
        have hpost : bz 1 (x_hullp a0 a1) := by
          exact Or.inl ⟨rfl, ⟨c_2, c_4, c_5⟩⟩
        exact W.zret (v := 1) hx hb hr (bz_nar hpost) (fun t9 ht hW => ⟨⟨1, (), rfl, hpost, by rw [ht]; exact hP, va_K.moved hW.alike hK, hD⟩, hS.F ht⟩) hS.2.2 de_M_hull_38
      · skip
        refine lv_iconst (v := 0) hx hb de_M_hull_25 (by decide) ?_
        have hfin : (sN t 0 0) = if x_hullp a0 a1 then sF (sF (sN t 0 0) 0 a0) 1 a1 else sN t 0 0 := by
          rw [if_neg (fun h => c_5 h.2.2)]
        rw [hfin] at hP hD
        subst hQ
        have hpost : bz 0 (x_hullp a0 a1) := by
          exact Or.inr ⟨rfl, (fun h => c_5 h.2.2)⟩
        exact W.zret (v := 0) hx hb hr (bz_nar hpost) (fun t9 ht hW => ⟨⟨0, (), rfl, hpost, by rw [ht]; exact hP, va_K.moved hW.alike hK, hD⟩, hS.F ht⟩) hS.2.2 de_M_hull_26
set_option maxHeartbeats 4000000 in
set_option maxRecDepth 100000 in
theorem mt_M_check (l : Launch) (dC : Nat → ClassId) (dI : Nat → Nat → Nat) (ad : Nat → Nat) (T : Nat → ClassId) (t : St)  (hI : IvM t) (hz : HZ (y_pre (sN t 0 0))) (sz : Nat) : Met l yn_M_check (.code yn_M_check cd_M_check 1 (some .int) :: UW) ({ frames := 4, cells := 0, slots := 0, locals := 99 } : Room) (va_Pc [.ref (ad 0)] (Pw (dC, dI) CLS (TY T) (wM ad T t) sz)) (va_Qi (fun (r : Int32) (_ : Unit) => r = nI (y_bn (y_pre (sN t 0 0)))) (Bw (dC, dI) CLS (TY T) (fun _ : Unit => (wM ad T (y_bs (y_pre (sN t 0 0))))) (va_A (wM ad T t) sz)) (va_A (wM ad T t) sz)) 0 0 (va_A (wM ad T t) sz) := by
  refine Met.ofW (cc := cd_M_check) (maxL := 1) (ret := (some .int)) (by decide) rfl ?_
  intro p e s m args below meth c s₁ B hml hv
  obtain ⟨rfl, hsz, hP, hK, hD0, hN⟩ := hv
  have hx := B.exec
  have hb := B.bytes
  have hr := B.returns
  have hts : ∀ w ∈ UW, w.before _ s = true := fun w h => atoms_spec (ws := .code yn_M_check cd_M_check 1 (some .int) :: UW) B.pre w (List.mem_cons_of_mem _ h)
  have hown : s.vm.findClass "StabilitySumsModel" = some m.cls := findClass_of_methodNamed B.named
  have hlocks := B.notSynchronized
  subst hsz
  have hD := hD0.self (sz := s.heap.size)
  generalize hAe : va_A (wM ad T t) s.heap.size = A at hD ⊢
  have hA : ∀ q : Nat, s.heap.size ≤ q → A q := fun q h => by rw [← hAe]; exact Or.inr h
  have hS : va_S A s.heap s.heap [] := va_S.rf
  have hl := lv_entry ([.ref (ad 0)]) (n := 1) (Nat.le_of_ble_eq_true rfl)
  rw [lg_entry_eq]
  generalize (lg_sl ([.ref (ad 0)]) ++ List.replicate (1 - (lg_sl ([.ref (ad 0)])).length) Slot.unset).toArray = ls at hl ⊢
  have hl : lv_has ls 1 [(0, .ref (ad 0))] := hl
  generalize hQ : MQ below _ _ s 0 0 A = Q
  obtain ⟨hI1, hI2, hI3, hI4, hI5⟩ := hI
  refine lv_aload_n hx hb de_M_check_0 rfl (lv_at hl 0 rfl) ?_
  refine lv_iconst (v := 0) hx hb de_M_check_1 (by decide) ?_
  refine va_put (D := (dC, dI)) (ci := 9) (v := .int 0) (ty := .int) (C := "StabilitySumsModel") (T := TB_M) (N := 33) hx hb hts ui_M tt_M tk_M nm_M hown hK hP hD hS 0 rfl rfl 0 (by decide) (hts _ uw_696) (fun _ h9 => h9) rfl (by decide +kernel) rfl rfl (Nat.le_of_ble_eq_true rfl) de_M_check_2 (fun H locs hP hD hS => ?_)
  have hP : va_P (dC, dI) CLS (wM ad T (sN t 0 0)) H := hP
  have hD : va_D A (wM ad T (sN t 0 0)) := hD
  refine lv_aload_n hx hb de_M_check_5 rfl (lv_at hl 0 rfl) ?_
  refine cl_Vv (As := []) (rest := []) ⟨hx, hb, hml, hown, hts⟩ (mt_M_present l dC dI ad T (sN t 0 0) (show IvM t from (by refine ⟨?_, ?_, ?_, ?_, ?_⟩ <;> omega))) (cwV 0 hts (uw_V uw_804 uw_806 uw_13 uw_36 uw_807) rfl rfl rfl (by decide +kernel) ⟨Nat.le_of_ble_eq_true rfl, Nat.le_of_ble_eq_true rfl⟩) (va_recv hK hP (ci := 9) (q0 := 0) rfl rfl) rfl hl.1 rfl (Nat.le_of_ble_eq_true rfl) de_M_check_6 ⟨Nat.zero_le _, Nat.zero_le _⟩ hK hN hP hD hS hA (fun _ H locs hw_1 hP hD hS => ?_)
  obtain ⟨t_2, et_2⟩ : ∃ z, z = y_pre (sN t 0 0) := ⟨_, rfl⟩
  have hP : va_P (dC, dI) CLS (wM ad T t_2) H := by rw [et_2]; exact hP
  have hD : va_D A (wM ad T t_2) := by rw [et_2]; exact hD
  obtain ⟨_, _, _, _, _⟩ : N5q t_2 t := by rw [et_2]; have h7 := n6to5 (a := y_pre (sN t 0 0)) (b := (sN t 0 0)) (y_pre_6 _); exact h7
  refine lv_aload_n hx hb de_M_check_9 rfl (lv_at hl 0 rfl) ?_
  refine cl_Vi (As := []) (rest := []) ⟨hx, hb, hml, hown, hts⟩ (mt_M_broken0 l dC dI ad T t_2 (show IvM t_2 from (by refine ⟨?_, ?_, ?_, ?_, ?_⟩ <;> omega)) (by rw [et_2]; exact hz)) (cwV 0 hts (uw_V uw_900 uw_902 uw_22 uw_36 uw_903) rfl rfl rfl (by decide +kernel) ⟨Nat.le_of_ble_eq_true rfl, Nat.le_of_ble_eq_true rfl⟩) (va_recv hK hP (ci := 9) (q0 := 0) rfl rfl) rfl hl.1 rfl (Nat.le_of_ble_eq_true rfl) de_M_check_10 ⟨Nat.zero_le _, Nat.zero_le _⟩ hK hN hP hD hS hA (fun r_3 _ H locs hw_3 hP hD hS => ?_)
  have hw_3 : r_3 = nI (y_bn t_2) := hw_3
  subst hw_3
  have : y_bn t_2 ≤ 0 + t_2.2.2.2 4 := y_lb_le _ _ _
  obtain ⟨t_4, et_4⟩ : ∃ z, z = y_bs t_2 := ⟨_, rfl⟩
  have hP : va_P (dC, dI) CLS (wM ad T t_4) H := by rw [et_4]; exact hP
  have hD : va_D A (wM ad T t_4) := by rw [et_4]; exact hD
  obtain ⟨_, _, _, _, _⟩ : N5q t_4 t_2 := by rw [et_4]; have h7 := n6to5 (a := y_bs t_2) (b := t_2) (nsix (y_lb_N _ _ _)); exact h7
  have hfin : t_4 = y_bs (y_pre (sN t 0 0)) := by
    subst_vars; rfl
  rw [hfin] at hP hD
  subst hQ
  have hpost : ((nI (y_bn t_2)) : Int32) = nI (y_bn (y_pre (sN t 0 0))) := by
    subst_vars; rfl
  exact W.iret (v := (nI (y_bn t_2))) hx hb hr (fun t9 ht hW => ⟨⟨(nI (y_bn t_2)), (), rfl, hpost, by rw [ht]; exact hP, va_K.moved hW.alike hK, hD⟩, hS.F ht⟩) hS.2.2 de_M_check_13
set_option maxHeartbeats 4000000 in
set_option maxRecDepth 100000 in
theorem mt_M_ballast (l : Launch) (dC : Nat → ClassId) (dI : Nat → Nat → Nat) (ad : Nat → Nat) (T : Nat → ClassId) (t : St)  (hI : IvM t) (hz : ∀ (k : Nat) (t' : St), k < 625 → EqB t' (sN t 0 0) → HZ (y_ic k t').2.2) (sz : Nat) : Met l yn_M_ballast (.code yn_M_ballast cd_M_ballast 1 (some .long) :: UW) ({ frames := 5, cells := 0, slots := 0, locals := 130 } : Room) (va_Pc [.ref (ad 0)] (Pw (dC, dI) CLS (TY T) (wM ad T t) sz)) (va_Ql (fun (r : Int64) (_ : Unit) => r = (y_pump (sN t 0 0)).1) (Bw (dC, dI) CLS (TY T) (fun _ : Unit => (wM ad T ((y_pump (sN t 0 0)).2))) (va_A (wM ad T t) sz)) (va_A (wM ad T t) sz)) 0 0 (va_A (wM ad T t) sz) := by
  refine Met.ofW (cc := cd_M_ballast) (maxL := 1) (ret := (some .long)) (by decide) rfl ?_
  intro p e s m args below meth c s₁ B hml hv
  obtain ⟨rfl, hsz, hP, hK, hD0, hN⟩ := hv
  have hx := B.exec
  have hb := B.bytes
  have hr := B.returns
  have hts : ∀ w ∈ UW, w.before _ s = true := fun w h => atoms_spec (ws := .code yn_M_ballast cd_M_ballast 1 (some .long) :: UW) B.pre w (List.mem_cons_of_mem _ h)
  have hown : s.vm.findClass "StabilitySumsModel" = some m.cls := findClass_of_methodNamed B.named
  have hlocks := B.notSynchronized
  subst hsz
  have hD := hD0.self (sz := s.heap.size)
  generalize hAe : va_A (wM ad T t) s.heap.size = A at hD ⊢
  have hA : ∀ q : Nat, s.heap.size ≤ q → A q := fun q h => by rw [← hAe]; exact Or.inr h
  have hS : va_S A s.heap s.heap [] := va_S.rf
  have hl := lv_entry ([.ref (ad 0)]) (n := 1) (Nat.le_of_ble_eq_true rfl)
  rw [lg_entry_eq]
  generalize (lg_sl ([.ref (ad 0)]) ++ List.replicate (1 - (lg_sl ([.ref (ad 0)])).length) Slot.unset).toArray = ls at hl ⊢
  have hl : lv_has ls 1 [(0, .ref (ad 0))] := hl
  generalize hQ : MQ below _ _ s 0 0 A = Q
  obtain ⟨hI1, hI2, hI3, hI4, hI5⟩ := hI
  refine lv_aload_n hx hb de_M_ballast_0 rfl (lv_at hl 0 rfl) ?_
  refine lv_iconst (v := 0) hx hb de_M_ballast_1 (by decide) ?_
  refine va_put (D := (dC, dI)) (ci := 9) (v := .int 0) (ty := .int) (C := "StabilitySumsModel") (T := TB_M) (N := 33) hx hb hts ui_M tt_M tk_M nm_M hown hK hP hD hS 0 rfl rfl 0 (by decide) (hts _ uw_696) (fun _ h9 => h9) rfl (by decide +kernel) rfl rfl (Nat.le_of_ble_eq_true rfl) de_M_ballast_2 (fun H locs hP hD hS => ?_)
  have hP : va_P (dC, dI) CLS (wM ad T (sN t 0 0)) H := hP
  have hD : va_D A (wM ad T (sN t 0 0)) := hD
  refine lv_aload_n hx hb de_M_ballast_5 rfl (lv_at hl 0 rfl) ?_
  refine cl_Vl (As := []) (rest := []) ⟨hx, hb, hml, hown, hts⟩ (mt_M_pump l dC dI ad T (sN t 0 0) (show IvM t from (by refine ⟨?_, ?_, ?_, ?_, ?_⟩ <;> omega)) hz) (cwV 0 hts (uw_V uw_912 uw_914 uw_24 uw_36 uw_915) rfl rfl rfl (by decide +kernel) ⟨Nat.le_of_ble_eq_true rfl, Nat.le_of_ble_eq_true rfl⟩) (va_recv hK hP (ci := 9) (q0 := 0) rfl rfl) rfl hl.1 rfl (Nat.le_of_ble_eq_true rfl) de_M_ballast_6 ⟨Nat.zero_le _, Nat.zero_le _⟩ hK hN hP hD hS hA (fun r_1 _ H locs hw_1 hP hD hS => ?_)
  have hw_1 : r_1 = (y_pump (sN t 0 0)).1 := hw_1
  obtain ⟨t_2, et_2⟩ : ∃ z, z = (y_pump (sN t 0 0)).2 := ⟨_, rfl⟩
  have hP : va_P (dC, dI) CLS (wM ad T t_2) H := by rw [et_2]; exact hP
  have hD : va_D A (wM ad T t_2) := by rw [et_2]; exact hD
  obtain ⟨_, _, _, _, _⟩ : N5q t_2 t := by rw [et_2]; have h7 := n6to5 (a := (y_pump (sN t 0 0)).2) (b := (sN t 0 0)) ((EqB.pp _ _ _ _).six); exact h7
  have hfin : t_2 = (y_pump (sN t 0 0)).2 := by
    assumption
  rw [hfin] at hP hD
  subst hQ
  have hpost : (r_1 : Int64) = (y_pump (sN t 0 0)).1 := by
    assumption
  exact W.lret (v := r_1) hx hb hr (fun t9 ht hW => ⟨⟨r_1, (), rfl, hpost, by rw [ht]; exact hP, va_K.moved hW.alike hK, hD⟩, hS.F ht⟩) hS.2.2 de_M_ballast_9
set_option maxHeartbeats 4000000 in
set_option maxRecDepth 100000 in
theorem mt_M_fill (l : Launch) (dC : Nat → ClassId) (dI : Nat → Nat → Nat) (ad : Nat → Nat) (T : Nat → ClassId) (t : St) (a0 : Int32) (hI : IvM t) (hz : ∀ (k : Nat) (t' : St), k < 625 → EqB t' (sN t 0 0) → HZ (y_ic k t').2.2) (sz : Nat) : Met l yn_M_fill (.code yn_M_fill cd_M_fill 2 (some .long) :: UW) ({ frames := 5, cells := 0, slots := 0, locals := 130 } : Room) (va_Pc [.ref (ad 0), .int a0] (Pw (dC, dI) CLS (TY T) (wM ad T t) sz)) (va_Ql (fun (r : Int64) (_ : Unit) => r = if x_th a0 (t.2.2.2 2) then (if 0 ≤ (y_pump (sN t 0 0)).1 then (y_pump (sN t 0 0)).2.1 12 a0.toNatClampNeg else -1) else 0) (Bw (dC, dI) CLS (TY T) (fun _ : Unit => (wM ad T (if x_th a0 (t.2.2.2 2) then (y_pump (sN t 0 0)).2 else sN t 0 1))) (va_A (wM ad T t) sz)) (va_A (wM ad T t) sz)) 0 0 (va_A (wM ad T t) sz) := by
  refine Met.ofW (cc := cd_M_fill) (maxL := 2) (ret := (some .long)) (by decide) rfl ?_
  intro p e s m args below meth c s₁ B hml hv
  obtain ⟨rfl, hsz, hP, hK, hD0, hN⟩ := hv
  have hx := B.exec
  have hb := B.bytes
  have hr := B.returns
  have hts : ∀ w ∈ UW, w.before _ s = true := fun w h => atoms_spec (ws := .code yn_M_fill cd_M_fill 2 (some .long) :: UW) B.pre w (List.mem_cons_of_mem _ h)
  have hown : s.vm.findClass "StabilitySumsModel" = some m.cls := findClass_of_methodNamed B.named
  have hlocks := B.notSynchronized
  subst hsz
  have hD := hD0.self (sz := s.heap.size)
  generalize hAe : va_A (wM ad T t) s.heap.size = A at hD ⊢
  have hA : ∀ q : Nat, s.heap.size ≤ q → A q := fun q h => by rw [← hAe]; exact Or.inr h
  have hS : va_S A s.heap s.heap [] := va_S.rf
  have hl := lv_entry ([.ref (ad 0), .int a0]) (n := 2) (Nat.le_of_ble_eq_true rfl)
  rw [lg_entry_eq]
  generalize (lg_sl ([.ref (ad 0), .int a0]) ++ List.replicate (2 - (lg_sl ([.ref (ad 0), .int a0])).length) Slot.unset).toArray = ls at hl ⊢
  have hl : lv_has ls 2 [(0, .ref (ad 0)), (1, .int a0)] := hl
  generalize hQ : MQ below _ _ s 0 0 A = Q
  obtain ⟨hI1, hI2, hI3, hI4, hI5⟩ := hI
  refine lv_aload_n hx hb de_M_fill_0 rfl (lv_at hl 0 rfl) ?_
  refine lv_iload_n hx hb de_M_fill_1 rfl (lv_at hl 1 rfl) ?_
  refine cl_Vi (As := [.int a0]) (rest := []) ⟨hx, hb, hml, hown, hts⟩ (mt_M_isTankThere l dC dI ad T t a0 (show IvM t from (by refine ⟨?_, ?_, ?_, ?_, ?_⟩ <;> omega))) (cwV 1 hts (uw_V uw_878 uw_880 uw_21 uw_36 uw_881) rfl rfl rfl (by decide +kernel) ⟨Nat.le_of_ble_eq_true rfl, Nat.le_of_ble_eq_true rfl⟩) (va_recv hK hP (ci := 9) (q0 := 0) rfl rfl) rfl hl.1 rfl (Nat.le_of_ble_eq_true rfl) de_M_fill_2 ⟨Nat.zero_le _, Nat.zero_le _⟩ hK hN hP hD hS hA (fun r_1 _ H locs hw_1 hP hD hS => ?_)
  have hw_1 : bz r_1 (x_th a0 (t.2.2.2 2)) := hw_1
  refine lv_if_ne (tgt := 15) hx hb de_M_fill_5 (by decide) (fun c_2 => ?_) (fun c_2 => ?_)
  · skip
    have c_2 := bz_t hw_1 c_2
    refine lv_aload_n hx hb de_M_fill_15 rfl (lv_at hl 0 rfl) ?_
    refine lv_iconst (v := 0) hx hb de_M_fill_16 (by decide) ?_
    refine va_put (D := (dC, dI)) (ci := 9) (v := .int 0) (ty := .int) (C := "StabilitySumsModel") (T := TB_M) (N := 33) hx hb hts ui_M tt_M tk_M nm_M hown hK hP hD hS 0 rfl rfl 0 (by decide) (hts _ uw_696) (fun _ h9 => h9) rfl (by decide +kernel) rfl rfl (Nat.le_of_ble_eq_true rfl) de_M_fill_17 (fun H locs hP hD hS => ?_)
    have hP : va_P (dC, dI) CLS (wM ad T (sN t 0 0)) H := hP
    have hD : va_D A (wM ad T (sN t 0 0)) := hD
    refine lv_aload_n hx hb de_M_fill_20 rfl (lv_at hl 0 rfl) ?_
    refine cl_Vl (As := []) (rest := []) ⟨hx, hb, hml, hown, hts⟩ (mt_M_pump l dC dI ad T (sN t 0 0) (show IvM t from (by refine ⟨?_, ?_, ?_, ?_, ?_⟩ <;> omega)) hz) (cwV 0 hts (uw_V uw_912 uw_914 uw_24 uw_36 uw_915) rfl rfl rfl (by decide +kernel) ⟨Nat.le_of_ble_eq_true rfl, Nat.le_of_ble_eq_true rfl⟩) (va_recv hK hP (ci := 9) (q0 := 0) rfl rfl) rfl hl.1 rfl (Nat.le_of_ble_eq_true rfl) de_M_fill_21 ⟨Nat.zero_le _, Nat.zero_le _⟩ hK hN hP hD hS hA (fun r_3 _ H locs hw_3 hP hD hS => ?_)
    have hw_3 : r_3 = (y_pump (sN t 0 0)).1 := hw_3
    obtain ⟨t_4, et_4⟩ : ∃ z, z = (y_pump (sN t 0 0)).2 := ⟨_, rfl⟩
    have hP : va_P (dC, dI) CLS (wM ad T t_4) H := by rw [et_4]; exact hP
    have hD : va_D A (wM ad T t_4) := by rw [et_4]; exact hD
    obtain ⟨_, _, _, _, _⟩ : N5q t_4 t := by rw [et_4]; have h7 := n6to5 (a := (y_pump (sN t 0 0)).2) (b := (sN t 0 0)) ((EqB.pp _ _ _ _).six); exact h7
    refine lv_lconst (v := 0) hx hb de_M_fill_24 (by decide) ?_
    refine rw_ge (tgt := 35) hx hb de_M_fill_25 de_M_fill_26 (by decide) (fun c_5 => ?_) (fun c_5 => ?_)
    · skip
      refine lv_aload_n hx hb de_M_fill_35 rfl (lv_at hl 0 rfl) ?_
      refine va_get (D := (dC, dI)) (ci := 9) (v := .ref (ad 13)) (C := "StabilitySumsModel") (T := TB_M) (N := 33) hx hb hts ui_M hown hK hP 0 rfl rfl 15 (by decide) (hts _ uw_711) (fun _ h9 => h9) rfl de_M_fill_36 ?_
      refine lv_iload_n hx hb de_M_fill_39 rfl (lv_at hl 1 rfl) ?_
      have hix_40 : a0 = nI a0.toNatClampNeg := cl_eq c_2.1
      refine rx_lald (f := t_4.1 12) (j := a0.toNatClampNeg) hx hb hK hP 13 0 rfl rfl (Nat.lt_of_lt_of_le (cl_lt c_2.1 c_2.2 (by omega)) (by omega)) (by decide) de_M_fill_40 hix_40 ?_
      have hfin : t_4 = if x_th a0 (t.2.2.2 2) then (y_pump (sN t 0 0)).2 else sN t 0 1 := by
        rw [if_pos c_2]; assumption
      rw [hfin] at hP hD
      subst hQ
      have hpost : ((t_4.1 12 a0.toNatClampNeg) : Int64) = if x_th a0 (t.2.2.2 2) then (if 0 ≤ (y_pump (sN t 0 0)).1 then (y_pump (sN t 0 0)).2.1 12 a0.toNatClampNeg else -1) else 0 := by
        subst_vars; rw [if_pos c_2, if_pos c_5]; first | done | rfl | decide
      exact W.lret (v := (t_4.1 12 a0.toNatClampNeg)) hx hb hr (fun t9 ht hW => ⟨⟨(t_4.1 12 a0.toNatClampNeg), (), rfl, hpost, by rw [ht]; exact hP, va_K.moved hW.alike hK, hD⟩, hS.F ht⟩) hS.2.2 de_M_fill_41
    · skip
      refine lv_ldc2 (v := (-1)) hx hb hown (hts _ uw_916) de_M_fill_29 ?_
      refine lv_goto (tgt := 41) hx hb de_M_fill_32 (by decide) ?_
      have hfin : t_4 = if x_th a0 (t.2.2.2 2) then (y_pump (sN t 0 0)).2 else sN t 0 1 := by
        rw [if_pos c_2]; assumption
      rw [hfin] at hP hD
      subst hQ
      have hpost : ((-1) : Int64) = if x_th a0 (t.2.2.2 2) then (if 0 ≤ (y_pump (sN t 0 0)).1 then (y_pump (sN t 0 0)).2.1 12 a0.toNatClampNeg else -1) else 0 := by
        subst_vars; rw [if_pos c_2, if_neg c_5]; first | done | rfl | decide
      exact W.lret (v := (-1)) hx hb hr (fun t9 ht hW => ⟨⟨(-1), (), rfl, hpost, by rw [ht]; exact hP, va_K.moved hW.alike hK, hD⟩, hS.F ht⟩) hS.2.2 de_M_fill_41
  · skip
    have c_2 := bz_f hw_1 c_2
    refine lv_aload_n hx hb de_M_fill_8 rfl (lv_at hl 0 rfl) ?_
    refine lv_iconst (v := 1) hx hb de_M_fill_9 (by decide) ?_
    refine cl_Vi (As := [.int 1]) (rest := []) ⟨hx, hb, hml, hown, hts⟩ (mt_M_fails l dC dI ad T t 1) (cwV 1 hts (uw_V uw_845 uw_847 uw_18 uw_36 uw_848) rfl rfl rfl (by decide +kernel) ⟨Nat.le_of_ble_eq_true rfl, Nat.le_of_ble_eq_true rfl⟩) (va_recv hK hP (ci := 9) (q0 := 0) rfl rfl) rfl hl.1 rfl (Nat.le_of_ble_eq_true rfl) de_M_fill_10 ⟨Nat.zero_le _, Nat.zero_le _⟩ hK hN hP hD hS hA (fun r_6 _ H locs hw_6 hP hD hS => ?_)
    have hw_6 : r_6 = 0 := hw_6
    obtain ⟨t_7, et_7⟩ : ∃ z, z = sN t 0 1 := ⟨_, rfl⟩
    have hP : va_P (dC, dI) CLS (wM ad T t_7) H := by rw [et_7]; exact hP
    have hD : va_D A (wM ad T t_7) := by rw [et_7]; exact hD
    refine lv_i2l (v := r_6.toInt64) hx hb de_M_fill_13 rfl ?_
    have hfin : t_7 = if x_th a0 (t.2.2.2 2) then (y_pump (sN t 0 0)).2 else sN t 0 1 := by
      rw [if_neg c_2]; assumption
    rw [hfin] at hP hD
    subst hQ
    have hpost : (r_6.toInt64 : Int64) = if x_th a0 (t.2.2.2 2) then (if 0 ≤ (y_pump (sN t 0 0)).1 then (y_pump (sN t 0 0)).2.1 12 a0.toNatClampNeg else -1) else 0 := by
      subst_vars; rw [if_neg c_2]; first | done | rfl | decide
    exact W.lret (v := r_6.toInt64) hx hb hr (fun t9 ht hW => ⟨⟨r_6.toInt64, (), rfl, hpost, by rw [ht]; exact hP, va_K.moved hW.alike hK, hD⟩, hS.F ht⟩) hS.2.2 de_M_fill_14
