set_option maxHeartbeats 4000000 in
set_option maxRecDepth 100000 in
theorem mt_M_hydro (l : Launch) (dC : Nat → ClassId) (dI : Nat → Nat → Nat) (ad : Nat → Nat) (T : Nat → ClassId) (t : St) (a0 : Int64) (a1 : Int64) (a2 : Int64) (hI : IvM t) (sz : Nat) : Met l yn_M_hydro (.code yn_M_hydro cd_M_hydro 7 (some .int) :: UW) ({ frames := 2, cells := 0, slots := 0, locals := 46 } : Room) (va_Pc [.ref (ad 0), .long a0, .long a1, .long a2] (Pw (dC, dI) CLS (TY T) (wM ad T t) sz)) (va_Qi (fun (r : Int32) (_ : Unit) => r = if okH a0 a1 a2 t then (if t.2.2.2 3 = 12 then 0 else nI (t.2.2.2 3 + 1)) else 0) (Bw (dC, dI) CLS (TY T) (fun _ : Unit => (wM ad T (if okH a0 a1 a2 t then (if t.2.2.2 3 = 12 then sN t 0 2 else yh a0 a1 a2 t) else sN t 0 1))) (va_A (wM ad T t) sz)) (va_A (wM ad T t) sz)) 0 0 (va_A (wM ad T t) sz) := by
  refine Met.ofW (cc := cd_M_hydro) (maxL := 7) (ret := (some .int)) (by decide) rfl ?_
  intro p e s m args below meth c s₁ B hml hv
  obtain ⟨rfl, hsz, hP, hK, hD0, hN⟩ := hv
  have hx := B.exec
  have hb := B.bytes
  have hr := B.returns
  have hts : ∀ w ∈ UW, w.before _ s = true := fun w h => atoms_spec (ws := .code yn_M_hydro cd_M_hydro 7 (some .int) :: UW) B.pre w (List.mem_cons_of_mem _ h)
  have hown : s.vm.findClass "StabilitySumsModel" = some m.cls := findClass_of_methodNamed B.named
  have hlocks := B.notSynchronized
  subst hsz
  have hD := hD0.self (sz := s.heap.size)
  generalize hAe : va_A (wM ad T t) s.heap.size = A at hD ⊢
  have hA : ∀ q : Nat, s.heap.size ≤ q → A q := fun q h => by rw [← hAe]; exact Or.inr h
  have hS : va_S A s.heap s.heap [] := va_S.rf
  have hl := lv_entry ([.ref (ad 0), .long a0, .long a1, .long a2]) (n := 7) (Nat.le_of_ble_eq_true rfl)
  rw [lg_entry_eq]
  generalize (lg_sl ([.ref (ad 0), .long a0, .long a1, .long a2]) ++ List.replicate (7 - (lg_sl ([.ref (ad 0), .long a0, .long a1, .long a2])).length) Slot.unset).toArray = ls at hl ⊢
  have hl : lv_has ls 7 [(0, .ref (ad 0)), (1, .long a0), (3, .long a1), (5, .long a2)] := hl
  generalize hQ : MQ below _ _ s 0 0 A = Q
  obtain ⟨hI1, hI2, hI3, hI4, hI5⟩ := hI
  refine lv_lload_n hx hb de_M_hydro_0 rfl (lv_at hl 1 rfl) ?_
  refine lv_lconst (v := 1) hx hb de_M_hydro_1 (by decide) ?_
  refine lv_ldc2 (v := 5000000) hx hb hown (hts _ uw_886) de_M_hydro_2 ?_
  refine cl_Si (As := [.long a0, .long 1, .long 5000000]) (rest := []) ⟨hx, hb, hml, hown, hts⟩ (mt_M_in l dC dI ad T t a0 1 5000000) (va_cwS 3 hts (uw_S uw_842 uw_843 uw_36 uw_844) rfl rfl rfl (by decide +kernel) ⟨Nat.le_of_ble_eq_true rfl, Nat.le_of_ble_eq_true rfl⟩) rfl hl.1 rfl (Nat.le_of_ble_eq_true rfl) de_M_hydro_5 ⟨Nat.zero_le _, Nat.zero_le _⟩ hK hN hP hD hS hA (fun r_1 _ H locs hw_1 hP hD hS => ?_)
  have hw_1 : bz r_1 (x_in a0 1 5000000) := hw_1
  refine lv_if_eq (tgt := 60) hx hb de_M_hydro_8 (by decide) (fun c_2 => ?_) (fun c_2 => ?_)
  · skip
    have c_2 := bz_f hw_1 c_2
    refine lv_aload_n hx hb de_M_hydro_60 rfl (lv_at hl 0 rfl) ?_
    refine lv_iconst (v := 1) hx hb de_M_hydro_61 (by decide) ?_
    refine cl_Vi (As := [.int 1]) (rest := []) ⟨hx, hb, hml, hown, hts⟩ (mt_M_fails l dC dI ad T t 1) (cwV 1 hts (uw_V uw_845 uw_847 uw_18 uw_36 uw_848) rfl rfl rfl (by decide +kernel) ⟨Nat.le_of_ble_eq_true rfl, Nat.le_of_ble_eq_true rfl⟩) (va_recv hK hP (ci := 9) (q0 := 0) rfl rfl) rfl hl.1 rfl (Nat.le_of_ble_eq_true rfl) de_M_hydro_62 ⟨Nat.zero_le _, Nat.zero_le _⟩ hK hN hP hD hS hA (fun r_3 _ H locs hw_3 hP hD hS => ?_)
    have hw_3 : r_3 = 0 := hw_3
    obtain ⟨t_4, et_4⟩ : ∃ z, z = sN t 0 1 := ⟨_, rfl⟩
    have hP : va_P (dC, dI) CLS (wM ad T t_4) H := by rw [et_4]; exact hP
    have hD : va_D A (wM ad T t_4) := by rw [et_4]; exact hD
    have hfin : t_4 = if okH a0 a1 a2 t then (if t.2.2.2 3 = 12 then sN t 0 2 else yh a0 a1 a2 t) else sN t 0 1 := by
      rw [if_neg (fun h => c_2 h.1)]; assumption
    rw [hfin] at hP hD
    subst hQ
    have hpost : (r_3 : Int32) = if okH a0 a1 a2 t then (if t.2.2.2 3 = 12 then 0 else nI (t.2.2.2 3 + 1)) else 0 := by
      rw [if_neg (fun h => c_2 h.1)]; assumption
    exact W.iret (v := r_3) hx hb hr (fun t9 ht hW => ⟨⟨r_3, (), rfl, hpost, by rw [ht]; exact hP, va_K.moved hW.alike hK, hD⟩, hS.F ht⟩) hS.2.2 de_M_hydro_65
  · skip
    have c_2 := bz_t hw_1 c_2
    refine lv_lload_n hx hb de_M_hydro_11 rfl (lv_at hl 2 rfl) ?_
    refine cl_Si (As := [.long a1]) (rest := []) ⟨hx, hb, hml, hown, hts⟩ (mt_M_isPlace l dC dI ad T t a1) (va_cwS 1 hts (uw_S uw_838 uw_839 uw_36 uw_840) rfl rfl rfl (by decide +kernel) ⟨Nat.le_of_ble_eq_true rfl, Nat.le_of_ble_eq_true rfl⟩) rfl hl.1 rfl (Nat.le_of_ble_eq_true rfl) de_M_hydro_12 ⟨Nat.zero_le _, Nat.zero_le _⟩ hK hN hP hD hS hA (fun r_5 _ H locs hw_5 hP hD hS => ?_)
    have hw_5 : bz r_5 (x_pl a1) := hw_5
    refine lv_if_eq (tgt := 60) hx hb de_M_hydro_15 (by decide) (fun c_6 => ?_) (fun c_6 => ?_)
    · skip
      have c_6 := bz_f hw_5 c_6
      refine lv_aload_n hx hb de_M_hydro_60 rfl (lv_at hl 0 rfl) ?_
      refine lv_iconst (v := 1) hx hb de_M_hydro_61 (by decide) ?_
      refine cl_Vi (As := [.int 1]) (rest := []) ⟨hx, hb, hml, hown, hts⟩ (mt_M_fails l dC dI ad T t 1) (cwV 1 hts (uw_V uw_845 uw_847 uw_18 uw_36 uw_848) rfl rfl rfl (by decide +kernel) ⟨Nat.le_of_ble_eq_true rfl, Nat.le_of_ble_eq_true rfl⟩) (va_recv hK hP (ci := 9) (q0 := 0) rfl rfl) rfl hl.1 rfl (Nat.le_of_ble_eq_true rfl) de_M_hydro_62 ⟨Nat.zero_le _, Nat.zero_le _⟩ hK hN hP hD hS hA (fun r_7 _ H locs hw_7 hP hD hS => ?_)
      have hw_7 : r_7 = 0 := hw_7
      obtain ⟨t_8, et_8⟩ : ∃ z, z = sN t 0 1 := ⟨_, rfl⟩
      have hP : va_P (dC, dI) CLS (wM ad T t_8) H := by rw [et_8]; exact hP
      have hD : va_D A (wM ad T t_8) := by rw [et_8]; exact hD
      have hfin : t_8 = if okH a0 a1 a2 t then (if t.2.2.2 3 = 12 then sN t 0 2 else yh a0 a1 a2 t) else sN t 0 1 := by
        rw [if_neg (fun h => c_6 h.2.1)]; assumption
      rw [hfin] at hP hD
      subst hQ
      have hpost : (r_7 : Int32) = if okH a0 a1 a2 t then (if t.2.2.2 3 = 12 then 0 else nI (t.2.2.2 3 + 1)) else 0 := by
        rw [if_neg (fun h => c_6 h.2.1)]; assumption
      exact W.iret (v := r_7) hx hb hr (fun t9 ht hW => ⟨⟨r_7, (), rfl, hpost, by rw [ht]; exact hP, va_K.moved hW.alike hK, hD⟩, hS.F ht⟩) hS.2.2 de_M_hydro_65
    · skip
      have c_6 := bz_t hw_5 c_6
      refine lv_lload hx hb de_M_hydro_18 (lv_at hl 3 rfl) ?_
      refine cl_Si (As := [.long a2]) (rest := []) ⟨hx, hb, hml, hown, hts⟩ (mt_M_isPlace l dC dI ad T t a2) (va_cwS 1 hts (uw_S uw_838 uw_839 uw_36 uw_840) rfl rfl rfl (by decide +kernel) ⟨Nat.le_of_ble_eq_true rfl, Nat.le_of_ble_eq_true rfl⟩) rfl hl.1 rfl (Nat.le_of_ble_eq_true rfl) de_M_hydro_20 ⟨Nat.zero_le _, Nat.zero_le _⟩ hK hN hP hD hS hA (fun r_9 _ H locs hw_9 hP hD hS => ?_)
      have hw_9 : bz r_9 (x_pl a2) := hw_9
      refine lv_if_eq (tgt := 60) hx hb de_M_hydro_23 (by decide) (fun c_10 => ?_) (fun c_10 => ?_)
      · skip
        have c_10 := bz_f hw_9 c_10
        refine lv_aload_n hx hb de_M_hydro_60 rfl (lv_at hl 0 rfl) ?_
        refine lv_iconst (v := 1) hx hb de_M_hydro_61 (by decide) ?_
        refine cl_Vi (As := [.int 1]) (rest := []) ⟨hx, hb, hml, hown, hts⟩ (mt_M_fails l dC dI ad T t 1) (cwV 1 hts (uw_V uw_845 uw_847 uw_18 uw_36 uw_848) rfl rfl rfl (by decide +kernel) ⟨Nat.le_of_ble_eq_true rfl, Nat.le_of_ble_eq_true rfl⟩) (va_recv hK hP (ci := 9) (q0 := 0) rfl rfl) rfl hl.1 rfl (Nat.le_of_ble_eq_true rfl) de_M_hydro_62 ⟨Nat.zero_le _, Nat.zero_le _⟩ hK hN hP hD hS hA (fun r_11 _ H locs hw_11 hP hD hS => ?_)
        have hw_11 : r_11 = 0 := hw_11
        obtain ⟨t_12, et_12⟩ : ∃ z, z = sN t 0 1 := ⟨_, rfl⟩
        have hP : va_P (dC, dI) CLS (wM ad T t_12) H := by rw [et_12]; exact hP
        have hD : va_D A (wM ad T t_12) := by rw [et_12]; exact hD
        have hfin : t_12 = if okH a0 a1 a2 t then (if t.2.2.2 3 = 12 then sN t 0 2 else yh a0 a1 a2 t) else sN t 0 1 := by
          rw [if_neg (fun h => c_10 h.2.2.1)]; assumption
        rw [hfin] at hP hD
        subst hQ
        have hpost : (r_11 : Int32) = if okH a0 a1 a2 t then (if t.2.2.2 3 = 12 then 0 else nI (t.2.2.2 3 + 1)) else 0 := by
          rw [if_neg (fun h => c_10 h.2.2.1)]; assumption
        exact W.iret (v := r_11) hx hb hr (fun t9 ht hW => ⟨⟨r_11, (), rfl, hpost, by rw [ht]; exact hP, va_K.moved hW.alike hK, hD⟩, hS.F ht⟩) hS.2.2 de_M_hydro_65
      · skip
        have c_10 := bz_t hw_9 c_10
        refine lv_aload_n hx hb de_M_hydro_26 rfl (lv_at hl 0 rfl) ?_
        refine va_get (D := (dC, dI)) (ci := 9) (v := .int (nI (t.2.2.2 3))) (C := "StabilitySumsModel") (T := TB_M) (N := 33) hx hb hts ui_M hown hK hP 0 rfl rfl 16 (by decide) (hts _ uw_712) (fun _ h9 => h9) rfl de_M_hydro_27 ?_
        refine lv_if_le (tgt := 66) hx hb de_M_hydro_30 (by decide) (fun c_13 => ?_) (fun c_13 => ?_)
        · skip
          have c_13 : (t.2.2.2 3) = 0 := (nle0 (by omega)).mp c_13
          refine lv_aload_n hx hb de_M_hydro_66 rfl (lv_at hl 0 rfl) ?_
          refine va_get (D := (dC, dI)) (ci := 9) (v := .int (nI (t.2.2.2 3))) (C := "StabilitySumsModel") (T := TB_M) (N := 33) hx hb hts ui_M hown hK hP 0 rfl rfl 16 (by decide) (hts _ uw_712) (fun _ h9 => h9) rfl de_M_hydro_67 ?_
          refine lv_bipush (v := 12) hx hb de_M_hydro_70 (by decide) ?_
          refine lv_icmp_ne (tgt := 81) hx hb de_M_hydro_72 (by decide) (fun c_14 => ?_) (fun c_14 => ?_)
          · skip
            have c_14 : ¬ ((t.2.2.2 3) = 12) := fun z => c_14 ((nI_eq (a := t.2.2.2 3) (b := 12) (by omega) (by omega)).mpr z)
            refine lv_aload_n hx hb de_M_hydro_81 rfl (lv_at hl 0 rfl) ?_
            refine lv_iconst (v := 0) hx hb de_M_hydro_82 (by decide) ?_
            refine va_put (D := (dC, dI)) (ci := 9) (v := .int 0) (ty := .int) (C := "StabilitySumsModel") (T := TB_M) (N := 33) hx hb hts ui_M tt_M tk_M nm_M hown hK hP hD hS 0 rfl rfl 0 (by decide) (hts _ uw_696) (fun _ h9 => h9) rfl (by decide +kernel) rfl rfl (Nat.le_of_ble_eq_true rfl) de_M_hydro_83 (fun H locs hP hD hS => ?_)
            have hP : va_P (dC, dI) CLS (wM ad T (sN t 0 0)) H := hP
            have hD : va_D A (wM ad T (sN t 0 0)) := hD
            refine lv_aload_n hx hb de_M_hydro_86 rfl (lv_at hl 0 rfl) ?_
            refine va_get (D := (dC, dI)) (ci := 9) (v := .ref (ad 14)) (C := "StabilitySumsModel") (T := TB_M) (N := 33) hx hb hts ui_M hown hK hP 0 rfl rfl 17 (by decide) (hts _ uw_713) (fun _ h9 => h9) rfl de_M_hydro_87 ?_
            refine lv_aload_n hx hb de_M_hydro_90 rfl (lv_at hl 0 rfl) ?_
            refine va_get (D := (dC, dI)) (ci := 9) (v := .int (nI (t.2.2.2 3))) (C := "StabilitySumsModel") (T := TB_M) (N := 33) hx hb hts ui_M hown hK hP 0 rfl rfl 16 (by decide) (hts _ uw_712) (fun _ h9 => h9) rfl de_M_hydro_91 ?_
            refine lv_lload_n hx hb de_M_hydro_94 rfl (lv_at hl 1 rfl) ?_
            refine rw_last (f := t.1 13) (j := (t.2.2.2 3)) (x := a0) hx hb hK hP hD hS 14 0 rfl rfl (by omega) (by decide) de_M_hydro_95 (fun H locs hP hD hS => ?_)
            have hP : va_P (dC, dI) CLS (wM ad T (sL (sN t 0 0) 13 (t.2.2.2 3) a0)) H := hP
            have hD : va_D A (wM ad T (sL (sN t 0 0) 13 (t.2.2.2 3) a0)) := hD
            refine lv_aload_n hx hb de_M_hydro_96 rfl (lv_at hl 0 rfl) ?_
            refine va_get (D := (dC, dI)) (ci := 9) (v := .ref (ad 15)) (C := "StabilitySumsModel") (T := TB_M) (N := 33) hx hb hts ui_M hown hK hP 0 rfl rfl 18 (by decide) (hts _ uw_714) (fun _ h9 => h9) rfl de_M_hydro_97 ?_
            refine lv_aload_n hx hb de_M_hydro_100 rfl (lv_at hl 0 rfl) ?_
            refine va_get (D := (dC, dI)) (ci := 9) (v := .int (nI (t.2.2.2 3))) (C := "StabilitySumsModel") (T := TB_M) (N := 33) hx hb hts ui_M hown hK hP 0 rfl rfl 16 (by decide) (hts _ uw_712) (fun _ h9 => h9) rfl de_M_hydro_101 ?_
            refine lv_lload_n hx hb de_M_hydro_104 rfl (lv_at hl 2 rfl) ?_
            refine rw_last (f := t.1 14) (j := (t.2.2.2 3)) (x := a1) hx hb hK hP hD hS 15 0 rfl rfl (by omega) (by decide) de_M_hydro_105 (fun H locs hP hD hS => ?_)
            have hP : va_P (dC, dI) CLS (wM ad T (sL (sL (sN t 0 0) 13 (t.2.2.2 3) a0) 14 (t.2.2.2 3) a1)) H := hP
            have hD : va_D A (wM ad T (sL (sL (sN t 0 0) 13 (t.2.2.2 3) a0) 14 (t.2.2.2 3) a1)) := hD
            refine lv_aload_n hx hb de_M_hydro_106 rfl (lv_at hl 0 rfl) ?_
            refine va_get (D := (dC, dI)) (ci := 9) (v := .ref (ad 16)) (C := "StabilitySumsModel") (T := TB_M) (N := 33) hx hb hts ui_M hown hK hP 0 rfl rfl 19 (by decide) (hts _ uw_715) (fun _ h9 => h9) rfl de_M_hydro_107 ?_
            refine lv_aload_n hx hb de_M_hydro_110 rfl (lv_at hl 0 rfl) ?_
            refine va_get (D := (dC, dI)) (ci := 9) (v := .int (nI (t.2.2.2 3))) (C := "StabilitySumsModel") (T := TB_M) (N := 33) hx hb hts ui_M hown hK hP 0 rfl rfl 16 (by decide) (hts _ uw_712) (fun _ h9 => h9) rfl de_M_hydro_111 ?_
            refine lv_lload hx hb de_M_hydro_114 (lv_at hl 3 rfl) ?_
            refine rw_last (f := t.1 15) (j := (t.2.2.2 3)) (x := a2) hx hb hK hP hD hS 16 0 rfl rfl (by omega) (by decide) de_M_hydro_116 (fun H locs hP hD hS => ?_)
            have hP : va_P (dC, dI) CLS (wM ad T (sL (sL (sL (sN t 0 0) 13 (t.2.2.2 3) a0) 14 (t.2.2.2 3) a1) 15 (t.2.2.2 3) a2)) H := hP
            have hD : va_D A (wM ad T (sL (sL (sL (sN t 0 0) 13 (t.2.2.2 3) a0) 14 (t.2.2.2 3) a1) 15 (t.2.2.2 3) a2)) := hD
            refine lv_aload_n hx hb de_M_hydro_117 rfl (lv_at hl 0 rfl) ?_
            refine lv_dup hx hb de_M_hydro_118 rfl ?_
            refine va_get (D := (dC, dI)) (ci := 9) (v := .int (nI (t.2.2.2 3))) (C := "StabilitySumsModel") (T := TB_M) (N := 33) hx hb hts ui_M hown hK hP 0 rfl rfl 16 (by decide) (hts _ uw_712) (fun _ h9 => h9) rfl de_M_hydro_119 ?_
            refine lv_iconst (v := 1) hx hb de_M_hydro_122 (by decide) ?_
            refine lv_iadd hx hb de_M_hydro_123 ?_
            refine lv_topi (fun v_15 ev_15 => ?_)
            have ev_15 : v_15 = (nI ((t.2.2.2 3) + 1)) := ev_15.trans (nI_add (t.2.2.2 3) 1)
            subst ev_15
            refine va_put (D := (dC, dI)) (ci := 9) (v := .int (nI ((t.2.2.2 3) + 1))) (ty := .int) (C := "StabilitySumsModel") (T := TB_M) (N := 33) hx hb hts ui_M tt_M tk_M nm_M hown hK hP hD hS 0 rfl rfl 16 (by decide) (hts _ uw_712) (fun _ h9 => h9) rfl (by decide +kernel) rfl rfl (Nat.le_of_ble_eq_true rfl) de_M_hydro_124 (fun H locs hP hD hS => ?_)
            have hP : va_P (dC, dI) CLS (wM ad T (sN (sL (sL (sL (sN t 0 0) 13 (t.2.2.2 3) a0) 14 (t.2.2.2 3) a1) 15 (t.2.2.2 3) a2) 3 ((t.2.2.2 3) + 1))) H := hP
            have hD : va_D A (wM ad T (sN (sL (sL (sL (sN t 0 0) 13 (t.2.2.2 3) a0) 14 (t.2.2.2 3) a1) 15 (t.2.2.2 3) a2) 3 ((t.2.2.2 3) + 1))) := hD
            refine lv_aload_n hx hb de_M_hydro_127 rfl (lv_at hl 0 rfl) ?_
            refine va_get (D := (dC, dI)) (ci := 9) (v := .int (nI ((t.2.2.2 3) + 1))) (C := "StabilitySumsModel") (T := TB_M) (N := 33) hx hb hts ui_M hown hK hP 0 rfl rfl 16 (by decide) (hts _ uw_712) (fun _ h9 => h9) rfl de_M_hydro_128 ?_
            have hfin : (sN (sL (sL (sL (sN t 0 0) 13 (t.2.2.2 3) a0) 14 (t.2.2.2 3) a1) 15 (t.2.2.2 3) a2) 3 ((t.2.2.2 3) + 1)) = if okH a0 a1 a2 t then (if t.2.2.2 3 = 12 then sN t 0 2 else yh a0 a1 a2 t) else sN t 0 1 := by
              rw [if_pos ⟨c_2, c_6, c_10, (fun h => absurd c_13 h)⟩, if_neg c_14]; first | done | assumption | rfl
            rw [hfin] at hP hD
            subst hQ
            have hpost : ((nI ((t.2.2.2 3) + 1)) : Int32) = if okH a0 a1 a2 t then (if t.2.2.2 3 = 12 then 0 else nI (t.2.2.2 3 + 1)) else 0 := by
              rw [if_pos ⟨c_2, c_6, c_10, (fun h => absurd c_13 h)⟩, if_neg c_14]; first | done | assumption | rfl
            exact W.iret (v := (nI ((t.2.2.2 3) + 1))) hx hb hr (fun t9 ht hW => ⟨⟨(nI ((t.2.2.2 3) + 1)), (), rfl, hpost, by rw [ht]; exact hP, va_K.moved hW.alike hK, hD⟩, hS.F ht⟩) hS.2.2 de_M_hydro_131
          · skip
            have c_14 : (t.2.2.2 3) = 12 := (nI_eq (a := t.2.2.2 3) (b := 12) (by omega) (by omega)).mp c_14
            refine lv_aload_n hx hb de_M_hydro_75 rfl (lv_at hl 0 rfl) ?_
            refine lv_iconst (v := 2) hx hb de_M_hydro_76 (by decide) ?_
            refine cl_Vi (As := [.int 2]) (rest := []) ⟨hx, hb, hml, hown, hts⟩ (mt_M_fails l dC dI ad T t 2) (cwV 1 hts (uw_V uw_845 uw_847 uw_18 uw_36 uw_848) rfl rfl rfl (by decide +kernel) ⟨Nat.le_of_ble_eq_true rfl, Nat.le_of_ble_eq_true rfl⟩) (va_recv hK hP (ci := 9) (q0 := 0) rfl rfl) rfl hl.1 rfl (Nat.le_of_ble_eq_true rfl) de_M_hydro_77 ⟨Nat.zero_le _, Nat.zero_le _⟩ hK hN hP hD hS hA (fun r_16 _ H locs hw_16 hP hD hS => ?_)
            have hw_16 : r_16 = 0 := hw_16
            obtain ⟨t_17, et_17⟩ : ∃ z, z = sN t 0 2 := ⟨_, rfl⟩
            have hP : va_P (dC, dI) CLS (wM ad T t_17) H := by rw [et_17]; exact hP
            have hD : va_D A (wM ad T t_17) := by rw [et_17]; exact hD
            have hfin : t_17 = if okH a0 a1 a2 t then (if t.2.2.2 3 = 12 then sN t 0 2 else yh a0 a1 a2 t) else sN t 0 1 := by
              rw [if_pos ⟨c_2, c_6, c_10, (fun h => absurd c_13 h)⟩, if_pos c_14]; first | done | assumption | rfl
            rw [hfin] at hP hD
            subst hQ
            have hpost : (r_16 : Int32) = if okH a0 a1 a2 t then (if t.2.2.2 3 = 12 then 0 else nI (t.2.2.2 3 + 1)) else 0 := by
              rw [if_pos ⟨c_2, c_6, c_10, (fun h => absurd c_13 h)⟩, if_pos c_14]; first | done | assumption | rfl
            exact W.iret (v := r_16) hx hb hr (fun t9 ht hW => ⟨⟨r_16, (), rfl, hpost, by rw [ht]; exact hP, va_K.moved hW.alike hK, hD⟩, hS.F ht⟩) hS.2.2 de_M_hydro_80
        · skip
          have c_13 : ¬ (t.2.2.2 3) = 0 := fun z => c_13 ((nle0 (by omega)).mpr z)
          refine lv_lload_n hx hb de_M_hydro_33 rfl (lv_at hl 1 rfl) ?_
          refine lv_aload_n hx hb de_M_hydro_34 rfl (lv_at hl 0 rfl) ?_
          refine va_get (D := (dC, dI)) (ci := 9) (v := .ref (ad 14)) (C := "StabilitySumsModel") (T := TB_M) (N := 33) hx hb hts ui_M hown hK hP 0 rfl rfl 17 (by decide) (hts _ uw_713) (fun _ h9 => h9) rfl de_M_hydro_35 ?_
          refine lv_aload_n hx hb de_M_hydro_38 rfl (lv_at hl 0 rfl) ?_
          refine va_get (D := (dC, dI)) (ci := 9) (v := .int (nI (t.2.2.2 3))) (C := "StabilitySumsModel") (T := TB_M) (N := 33) hx hb hts ui_M hown hK hP 0 rfl rfl 16 (by decide) (hts _ uw_712) (fun _ h9 => h9) rfl de_M_hydro_39 ?_
          refine lv_if_le (tgt := 54) hx hb de_M_hydro_42 (by decide) (fun c_18 => ?_) (fun c_18 => ?_)
          · skip
            have c_18 : (t.2.2.2 3) = 0 := (nle0 (by omega)).mp c_18
            refine lv_iconst (v := 0) hx hb de_M_hydro_54 (by decide) ?_
            refine rw_lald (f := t.1 13) (j := 0) hx hb hK hP 14 0 rfl rfl (by decide) (by decide) de_M_hydro_55 ?_
            refine rw_gt (tgt := 66) hx hb de_M_hydro_56 de_M_hydro_57 (by decide) (fun c_19 => ?_) (fun c_19 => ?_)
            · skip
              refine lv_aload_n hx hb de_M_hydro_66 rfl (lv_at hl 0 rfl) ?_
              refine va_get (D := (dC, dI)) (ci := 9) (v := .int (nI (t.2.2.2 3))) (C := "StabilitySumsModel") (T := TB_M) (N := 33) hx hb hts ui_M hown hK hP 0 rfl rfl 16 (by decide) (hts _ uw_712) (fun _ h9 => h9) rfl de_M_hydro_67 ?_
              refine lv_bipush (v := 12) hx hb de_M_hydro_70 (by decide) ?_
              refine lv_icmp_ne (tgt := 81) hx hb de_M_hydro_72 (by decide) (fun c_20 => ?_) (fun c_20 => ?_)
              · skip
                have c_20 : ¬ ((t.2.2.2 3) = 12) := fun z => c_20 ((nI_eq (a := t.2.2.2 3) (b := 12) (by omega) (by omega)).mpr z)
                refine lv_aload_n hx hb de_M_hydro_81 rfl (lv_at hl 0 rfl) ?_
                refine lv_iconst (v := 0) hx hb de_M_hydro_82 (by decide) ?_
                refine va_put (D := (dC, dI)) (ci := 9) (v := .int 0) (ty := .int) (C := "StabilitySumsModel") (T := TB_M) (N := 33) hx hb hts ui_M tt_M tk_M nm_M hown hK hP hD hS 0 rfl rfl 0 (by decide) (hts _ uw_696) (fun _ h9 => h9) rfl (by decide +kernel) rfl rfl (Nat.le_of_ble_eq_true rfl) de_M_hydro_83 (fun H locs hP hD hS => ?_)
                have hP : va_P (dC, dI) CLS (wM ad T (sN t 0 0)) H := hP
                have hD : va_D A (wM ad T (sN t 0 0)) := hD
                refine lv_aload_n hx hb de_M_hydro_86 rfl (lv_at hl 0 rfl) ?_
                refine va_get (D := (dC, dI)) (ci := 9) (v := .ref (ad 14)) (C := "StabilitySumsModel") (T := TB_M) (N := 33) hx hb hts ui_M hown hK hP 0 rfl rfl 17 (by decide) (hts _ uw_713) (fun _ h9 => h9) rfl de_M_hydro_87 ?_
                refine lv_aload_n hx hb de_M_hydro_90 rfl (lv_at hl 0 rfl) ?_
                refine va_get (D := (dC, dI)) (ci := 9) (v := .int (nI (t.2.2.2 3))) (C := "StabilitySumsModel") (T := TB_M) (N := 33) hx hb hts ui_M hown hK hP 0 rfl rfl 16 (by decide) (hts _ uw_712) (fun _ h9 => h9) rfl de_M_hydro_91 ?_
                refine lv_lload_n hx hb de_M_hydro_94 rfl (lv_at hl 1 rfl) ?_
                refine rw_last (f := t.1 13) (j := (t.2.2.2 3)) (x := a0) hx hb hK hP hD hS 14 0 rfl rfl (by omega) (by decide) de_M_hydro_95 (fun H locs hP hD hS => ?_)
                have hP : va_P (dC, dI) CLS (wM ad T (sL (sN t 0 0) 13 (t.2.2.2 3) a0)) H := hP
                have hD : va_D A (wM ad T (sL (sN t 0 0) 13 (t.2.2.2 3) a0)) := hD
                refine lv_aload_n hx hb de_M_hydro_96 rfl (lv_at hl 0 rfl) ?_
                refine va_get (D := (dC, dI)) (ci := 9) (v := .ref (ad 15)) (C := "StabilitySumsModel") (T := TB_M) (N := 33) hx hb hts ui_M hown hK hP 0 rfl rfl 18 (by decide) (hts _ uw_714) (fun _ h9 => h9) rfl de_M_hydro_97 ?_
                refine lv_aload_n hx hb de_M_hydro_100 rfl (lv_at hl 0 rfl) ?_
                refine va_get (D := (dC, dI)) (ci := 9) (v := .int (nI (t.2.2.2 3))) (C := "StabilitySumsModel") (T := TB_M) (N := 33) hx hb hts ui_M hown hK hP 0 rfl rfl 16 (by decide) (hts _ uw_712) (fun _ h9 => h9) rfl de_M_hydro_101 ?_
                refine lv_lload_n hx hb de_M_hydro_104 rfl (lv_at hl 2 rfl) ?_
                refine rw_last (f := t.1 14) (j := (t.2.2.2 3)) (x := a1) hx hb hK hP hD hS 15 0 rfl rfl (by omega) (by decide) de_M_hydro_105 (fun H locs hP hD hS => ?_)
                have hP : va_P (dC, dI) CLS (wM ad T (sL (sL (sN t 0 0) 13 (t.2.2.2 3) a0) 14 (t.2.2.2 3) a1)) H := hP
                have hD : va_D A (wM ad T (sL (sL (sN t 0 0) 13 (t.2.2.2 3) a0) 14 (t.2.2.2 3) a1)) := hD
                refine lv_aload_n hx hb de_M_hydro_106 rfl (lv_at hl 0 rfl) ?_
                refine va_get (D := (dC, dI)) (ci := 9) (v := .ref (ad 16)) (C := "StabilitySumsModel") (T := TB_M) (N := 33) hx hb hts ui_M hown hK hP 0 rfl rfl 19 (by decide) (hts _ uw_715) (fun _ h9 => h9) rfl de_M_hydro_107 ?_
                refine lv_aload_n hx hb de_M_hydro_110 rfl (lv_at hl 0 rfl) ?_
                refine va_get (D := (dC, dI)) (ci := 9) (v := .int (nI (t.2.2.2 3))) (C := "StabilitySumsModel") (T := TB_M) (N := 33) hx hb hts ui_M hown hK hP 0 rfl rfl 16 (by decide) (hts _ uw_712) (fun _ h9 => h9) rfl de_M_hydro_111 ?_
                refine lv_lload hx hb de_M_hydro_114 (lv_at hl 3 rfl) ?_
                refine rw_last (f := t.1 15) (j := (t.2.2.2 3)) (x := a2) hx hb hK hP hD hS 16 0 rfl rfl (by omega) (by decide) de_M_hydro_116 (fun H locs hP hD hS => ?_)
                have hP : va_P (dC, dI) CLS (wM ad T (sL (sL (sL (sN t 0 0) 13 (t.2.2.2 3) a0) 14 (t.2.2.2 3) a1) 15 (t.2.2.2 3) a2)) H := hP
                have hD : va_D A (wM ad T (sL (sL (sL (sN t 0 0) 13 (t.2.2.2 3) a0) 14 (t.2.2.2 3) a1) 15 (t.2.2.2 3) a2)) := hD
                refine lv_aload_n hx hb de_M_hydro_117 rfl (lv_at hl 0 rfl) ?_
                refine lv_dup hx hb de_M_hydro_118 rfl ?_
                refine va_get (D := (dC, dI)) (ci := 9) (v := .int (nI (t.2.2.2 3))) (C := "StabilitySumsModel") (T := TB_M) (N := 33) hx hb hts ui_M hown hK hP 0 rfl rfl 16 (by decide) (hts _ uw_712) (fun _ h9 => h9) rfl de_M_hydro_119 ?_
                refine lv_iconst (v := 1) hx hb de_M_hydro_122 (by decide) ?_
                refine lv_iadd hx hb de_M_hydro_123 ?_
                refine lv_topi (fun v_21 ev_21 => ?_)
                have ev_21 : v_21 = (nI ((t.2.2.2 3) + 1)) := ev_21.trans (nI_add (t.2.2.2 3) 1)
                subst ev_21
                refine va_put (D := (dC, dI)) (ci := 9) (v := .int (nI ((t.2.2.2 3) + 1))) (ty := .int) (C := "StabilitySumsModel") (T := TB_M) (N := 33) hx hb hts ui_M tt_M tk_M nm_M hown hK hP hD hS 0 rfl rfl 16 (by decide) (hts _ uw_712) (fun _ h9 => h9) rfl (by decide +kernel) rfl rfl (Nat.le_of_ble_eq_true rfl) de_M_hydro_124 (fun H locs hP hD hS => ?_)
                have hP : va_P (dC, dI) CLS (wM ad T (sN (sL (sL (sL (sN t 0 0) 13 (t.2.2.2 3) a0) 14 (t.2.2.2 3) a1) 15 (t.2.2.2 3) a2) 3 ((t.2.2.2 3) + 1))) H := hP
                have hD : va_D A (wM ad T (sN (sL (sL (sL (sN t 0 0) 13 (t.2.2.2 3) a0) 14 (t.2.2.2 3) a1) 15 (t.2.2.2 3) a2) 3 ((t.2.2.2 3) + 1))) := hD
                refine lv_aload_n hx hb de_M_hydro_127 rfl (lv_at hl 0 rfl) ?_
                refine va_get (D := (dC, dI)) (ci := 9) (v := .int (nI ((t.2.2.2 3) + 1))) (C := "StabilitySumsModel") (T := TB_M) (N := 33) hx hb hts ui_M hown hK hP 0 rfl rfl 16 (by decide) (hts _ uw_712) (fun _ h9 => h9) rfl de_M_hydro_128 ?_
                have hfin : (sN (sL (sL (sL (sN t 0 0) 13 (t.2.2.2 3) a0) 14 (t.2.2.2 3) a1) 15 (t.2.2.2 3) a2) 3 ((t.2.2.2 3) + 1)) = if okH a0 a1 a2 t then (if t.2.2.2 3 = 12 then sN t 0 2 else yh a0 a1 a2 t) else sN t 0 1 := by
                  exact absurd c_18 c_13
                rw [hfin] at hP hD
                subst hQ
                have hpost : ((nI ((t.2.2.2 3) + 1)) : Int32) = if okH a0 a1 a2 t then (if t.2.2.2 3 = 12 then 0 else nI (t.2.2.2 3 + 1)) else 0 := by
                  exact absurd c_18 c_13
                exact W.iret (v := (nI ((t.2.2.2 3) + 1))) hx hb hr (fun t9 ht hW => ⟨⟨(nI ((t.2.2.2 3) + 1)), (), rfl, hpost, by rw [ht]; exact hP, va_K.moved hW.alike hK, hD⟩, hS.F ht⟩) hS.2.2 de_M_hydro_131
              · skip
                have c_20 : (t.2.2.2 3) = 12 := (nI_eq (a := t.2.2.2 3) (b := 12) (by omega) (by omega)).mp c_20
                refine lv_aload_n hx hb de_M_hydro_75 rfl (lv_at hl 0 rfl) ?_
                refine lv_iconst (v := 2) hx hb de_M_hydro_76 (by decide) ?_
                refine cl_Vi (As := [.int 2]) (rest := []) ⟨hx, hb, hml, hown, hts⟩ (mt_M_fails l dC dI ad T t 2) (cwV 1 hts (uw_V uw_845 uw_847 uw_18 uw_36 uw_848) rfl rfl rfl (by decide +kernel) ⟨Nat.le_of_ble_eq_true rfl, Nat.le_of_ble_eq_true rfl⟩) (va_recv hK hP (ci := 9) (q0 := 0) rfl rfl) rfl hl.1 rfl (Nat.le_of_ble_eq_true rfl) de_M_hydro_77 ⟨Nat.zero_le _, Nat.zero_le _⟩ hK hN hP hD hS hA (fun r_22 _ H locs hw_22 hP hD hS => ?_)
                have hw_22 : r_22 = 0 := hw_22
                obtain ⟨t_23, et_23⟩ : ∃ z, z = sN t 0 2 := ⟨_, rfl⟩
                have hP : va_P (dC, dI) CLS (wM ad T t_23) H := by rw [et_23]; exact hP
                have hD : va_D A (wM ad T t_23) := by rw [et_23]; exact hD
                have hfin : t_23 = if okH a0 a1 a2 t then (if t.2.2.2 3 = 12 then sN t 0 2 else yh a0 a1 a2 t) else sN t 0 1 := by
                  exact absurd c_18 c_13
                rw [hfin] at hP hD
                subst hQ
                have hpost : (r_22 : Int32) = if okH a0 a1 a2 t then (if t.2.2.2 3 = 12 then 0 else nI (t.2.2.2 3 + 1)) else 0 := by
                  exact absurd c_18 c_13
                exact W.iret (v := r_22) hx hb hr (fun t9 ht hW => ⟨⟨r_22, (), rfl, hpost, by rw [ht]; exact hP, va_K.moved hW.alike hK, hD⟩, hS.F ht⟩) hS.2.2 de_M_hydro_80
            · skip
              refine lv_aload_n hx hb de_M_hydro_60 rfl (lv_at hl 0 rfl) ?_
              refine lv_iconst (v := 1) hx hb de_M_hydro_61 (by decide) ?_
              refine cl_Vi (As := [.int 1]) (rest := []) ⟨hx, hb, hml, hown, hts⟩ (mt_M_fails l dC dI ad T t 1) (cwV 1 hts (uw_V uw_845 uw_847 uw_18 uw_36 uw_848) rfl rfl rfl (by decide +kernel) ⟨Nat.le_of_ble_eq_true rfl, Nat.le_of_ble_eq_true rfl⟩) (va_recv hK hP (ci := 9) (q0 := 0) rfl rfl) rfl hl.1 rfl (Nat.le_of_ble_eq_true rfl) de_M_hydro_62 ⟨Nat.zero_le _, Nat.zero_le _⟩ hK hN hP hD hS hA (fun r_24 _ H locs hw_24 hP hD hS => ?_)
              have hw_24 : r_24 = 0 := hw_24
              obtain ⟨t_25, et_25⟩ : ∃ z, z = sN t 0 1 := ⟨_, rfl⟩
              have hP : va_P (dC, dI) CLS (wM ad T t_25) H := by rw [et_25]; exact hP
              have hD : va_D A (wM ad T t_25) := by rw [et_25]; exact hD
              have hfin : t_25 = if okH a0 a1 a2 t then (if t.2.2.2 3 = 12 then sN t 0 2 else yh a0 a1 a2 t) else sN t 0 1 := by
                exact absurd c_18 c_13
              rw [hfin] at hP hD
              subst hQ
              have hpost : (r_24 : Int32) = if okH a0 a1 a2 t then (if t.2.2.2 3 = 12 then 0 else nI (t.2.2.2 3 + 1)) else 0 := by
                exact absurd c_18 c_13
              exact W.iret (v := r_24) hx hb hr (fun t9 ht hW => ⟨⟨r_24, (), rfl, hpost, by rw [ht]; exact hP, va_K.moved hW.alike hK, hD⟩, hS.F ht⟩) hS.2.2 de_M_hydro_65
          · skip
            have c_18 : ¬ (t.2.2.2 3) = 0 := fun z => c_18 ((nle0 (by omega)).mpr z)
            refine lv_aload_n hx hb de_M_hydro_45 rfl (lv_at hl 0 rfl) ?_
            refine va_get (D := (dC, dI)) (ci := 9) (v := .int (nI (t.2.2.2 3))) (C := "StabilitySumsModel") (T := TB_M) (N := 33) hx hb hts ui_M hown hK hP 0 rfl rfl 16 (by decide) (hts _ uw_712) (fun _ h9 => h9) rfl de_M_hydro_46 ?_
            refine lv_iconst (v := 1) hx hb de_M_hydro_49 (by decide) ?_
            refine lv_isub hx hb de_M_hydro_50 ?_
            refine lv_topi (fun v_26 ev_26 => ?_)
            have ev_26 : v_26 = (nI ((t.2.2.2 3) - 1)) := ev_26.trans (pk_sub (a := t.2.2.2 3) (b := 1) (by omega))
            subst ev_26
            refine lv_goto (tgt := 55) hx hb de_M_hydro_51 (by decide) ?_
            refine rw_lald (f := t.1 13) (j := ((t.2.2.2 3) - 1)) hx hb hK hP 14 0 rfl rfl (by omega) (by decide) de_M_hydro_55 ?_
            refine rw_gt (tgt := 66) hx hb de_M_hydro_56 de_M_hydro_57 (by decide) (fun c_27 => ?_) (fun c_27 => ?_)
            · skip
              refine lv_aload_n hx hb de_M_hydro_66 rfl (lv_at hl 0 rfl) ?_
              refine va_get (D := (dC, dI)) (ci := 9) (v := .int (nI (t.2.2.2 3))) (C := "StabilitySumsModel") (T := TB_M) (N := 33) hx hb hts ui_M hown hK hP 0 rfl rfl 16 (by decide) (hts _ uw_712) (fun _ h9 => h9) rfl de_M_hydro_67 ?_
              refine lv_bipush (v := 12) hx hb de_M_hydro_70 (by decide) ?_
              refine lv_icmp_ne (tgt := 81) hx hb de_M_hydro_72 (by decide) (fun c_28 => ?_) (fun c_28 => ?_)
              · skip
                have c_28 : ¬ ((t.2.2.2 3) = 12) := fun z => c_28 ((nI_eq (a := t.2.2.2 3) (b := 12) (by omega) (by omega)).mpr z)
                refine lv_aload_n hx hb de_M_hydro_81 rfl (lv_at hl 0 rfl) ?_
                refine lv_iconst (v := 0) hx hb de_M_hydro_82 (by decide) ?_
                refine va_put (D := (dC, dI)) (ci := 9) (v := .int 0) (ty := .int) (C := "StabilitySumsModel") (T := TB_M) (N := 33) hx hb hts ui_M tt_M tk_M nm_M hown hK hP hD hS 0 rfl rfl 0 (by decide) (hts _ uw_696) (fun _ h9 => h9) rfl (by decide +kernel) rfl rfl (Nat.le_of_ble_eq_true rfl) de_M_hydro_83 (fun H locs hP hD hS => ?_)
                have hP : va_P (dC, dI) CLS (wM ad T (sN t 0 0)) H := hP
                have hD : va_D A (wM ad T (sN t 0 0)) := hD
                refine lv_aload_n hx hb de_M_hydro_86 rfl (lv_at hl 0 rfl) ?_
                refine va_get (D := (dC, dI)) (ci := 9) (v := .ref (ad 14)) (C := "StabilitySumsModel") (T := TB_M) (N := 33) hx hb hts ui_M hown hK hP 0 rfl rfl 17 (by decide) (hts _ uw_713) (fun _ h9 => h9) rfl de_M_hydro_87 ?_
                refine lv_aload_n hx hb de_M_hydro_90 rfl (lv_at hl 0 rfl) ?_
                refine va_get (D := (dC, dI)) (ci := 9) (v := .int (nI (t.2.2.2 3))) (C := "StabilitySumsModel") (T := TB_M) (N := 33) hx hb hts ui_M hown hK hP 0 rfl rfl 16 (by decide) (hts _ uw_712) (fun _ h9 => h9) rfl de_M_hydro_91 ?_
                refine lv_lload_n hx hb de_M_hydro_94 rfl (lv_at hl 1 rfl) ?_
                refine rw_last (f := t.1 13) (j := (t.2.2.2 3)) (x := a0) hx hb hK hP hD hS 14 0 rfl rfl (by omega) (by decide) de_M_hydro_95 (fun H locs hP hD hS => ?_)
                have hP : va_P (dC, dI) CLS (wM ad T (sL (sN t 0 0) 13 (t.2.2.2 3) a0)) H := hP
                have hD : va_D A (wM ad T (sL (sN t 0 0) 13 (t.2.2.2 3) a0)) := hD
                refine lv_aload_n hx hb de_M_hydro_96 rfl (lv_at hl 0 rfl) ?_
                refine va_get (D := (dC, dI)) (ci := 9) (v := .ref (ad 15)) (C := "StabilitySumsModel") (T := TB_M) (N := 33) hx hb hts ui_M hown hK hP 0 rfl rfl 18 (by decide) (hts _ uw_714) (fun _ h9 => h9) rfl de_M_hydro_97 ?_
                refine lv_aload_n hx hb de_M_hydro_100 rfl (lv_at hl 0 rfl) ?_
                refine va_get (D := (dC, dI)) (ci := 9) (v := .int (nI (t.2.2.2 3))) (C := "StabilitySumsModel") (T := TB_M) (N := 33) hx hb hts ui_M hown hK hP 0 rfl rfl 16 (by decide) (hts _ uw_712) (fun _ h9 => h9) rfl de_M_hydro_101 ?_
                refine lv_lload_n hx hb de_M_hydro_104 rfl (lv_at hl 2 rfl) ?_
                refine rw_last (f := t.1 14) (j := (t.2.2.2 3)) (x := a1) hx hb hK hP hD hS 15 0 rfl rfl (by omega) (by decide) de_M_hydro_105 (fun H locs hP hD hS => ?_)
                have hP : va_P (dC, dI) CLS (wM ad T (sL (sL (sN t 0 0) 13 (t.2.2.2 3) a0) 14 (t.2.2.2 3) a1)) H := hP
                have hD : va_D A (wM ad T (sL (sL (sN t 0 0) 13 (t.2.2.2 3) a0) 14 (t.2.2.2 3) a1)) := hD
                refine lv_aload_n hx hb de_M_hydro_106 rfl (lv_at hl 0 rfl) ?_
                refine va_get (D := (dC, dI)) (ci := 9) (v := .ref (ad 16)) (C := "StabilitySumsModel") (T := TB_M) (N := 33) hx hb hts ui_M hown hK hP 0 rfl rfl 19 (by decide) (hts _ uw_715) (fun _ h9 => h9) rfl de_M_hydro_107 ?_
                refine lv_aload_n hx hb de_M_hydro_110 rfl (lv_at hl 0 rfl) ?_
                refine va_get (D := (dC, dI)) (ci := 9) (v := .int (nI (t.2.2.2 3))) (C := "StabilitySumsModel") (T := TB_M) (N := 33) hx hb hts ui_M hown hK hP 0 rfl rfl 16 (by decide) (hts _ uw_712) (fun _ h9 => h9) rfl de_M_hydro_111 ?_
                refine lv_lload hx hb de_M_hydro_114 (lv_at hl 3 rfl) ?_
                refine rw_last (f := t.1 15) (j := (t.2.2.2 3)) (x := a2) hx hb hK hP hD hS 16 0 rfl rfl (by omega) (by decide) de_M_hydro_116 (fun H locs hP hD hS => ?_)
                have hP : va_P (dC, dI) CLS (wM ad T (sL (sL (sL (sN t 0 0) 13 (t.2.2.2 3) a0) 14 (t.2.2.2 3) a1) 15 (t.2.2.2 3) a2)) H := hP
                have hD : va_D A (wM ad T (sL (sL (sL (sN t 0 0) 13 (t.2.2.2 3) a0) 14 (t.2.2.2 3) a1) 15 (t.2.2.2 3) a2)) := hD
                refine lv_aload_n hx hb de_M_hydro_117 rfl (lv_at hl 0 rfl) ?_
                refine lv_dup hx hb de_M_hydro_118 rfl ?_
                refine va_get (D := (dC, dI)) (ci := 9) (v := .int (nI (t.2.2.2 3))) (C := "StabilitySumsModel") (T := TB_M) (N := 33) hx hb hts ui_M hown hK hP 0 rfl rfl 16 (by decide) (hts _ uw_712) (fun _ h9 => h9) rfl de_M_hydro_119 ?_
                refine lv_iconst (v := 1) hx hb de_M_hydro_122 (by decide) ?_
                refine lv_iadd hx hb de_M_hydro_123 ?_
                refine lv_topi (fun v_29 ev_29 => ?_)
                have ev_29 : v_29 = (nI ((t.2.2.2 3) + 1)) := ev_29.trans (nI_add (t.2.2.2 3) 1)
                subst ev_29
                refine va_put (D := (dC, dI)) (ci := 9) (v := .int (nI ((t.2.2.2 3) + 1))) (ty := .int) (C := "StabilitySumsModel") (T := TB_M) (N := 33) hx hb hts ui_M tt_M tk_M nm_M hown hK hP hD hS 0 rfl rfl 16 (by decide) (hts _ uw_712) (fun _ h9 => h9) rfl (by decide +kernel) rfl rfl (Nat.le_of_ble_eq_true rfl) de_M_hydro_124 (fun H locs hP hD hS => ?_)
                have hP : va_P (dC, dI) CLS (wM ad T (sN (sL (sL (sL (sN t 0 0) 13 (t.2.2.2 3) a0) 14 (t.2.2.2 3) a1) 15 (t.2.2.2 3) a2) 3 ((t.2.2.2 3) + 1))) H := hP
                have hD : va_D A (wM ad T (sN (sL (sL (sL (sN t 0 0) 13 (t.2.2.2 3) a0) 14 (t.2.2.2 3) a1) 15 (t.2.2.2 3) a2) 3 ((t.2.2.2 3) + 1))) := hD
                refine lv_aload_n hx hb de_M_hydro_127 rfl (lv_at hl 0 rfl) ?_
                refine va_get (D := (dC, dI)) (ci := 9) (v := .int (nI ((t.2.2.2 3) + 1))) (C := "StabilitySumsModel") (T := TB_M) (N := 33) hx hb hts ui_M hown hK hP 0 rfl rfl 16 (by decide) (hts _ uw_712) (fun _ h9 => h9) rfl de_M_hydro_128 ?_
                have hfin : (sN (sL (sL (sL (sN t 0 0) 13 (t.2.2.2 3) a0) 14 (t.2.2.2 3) a1) 15 (t.2.2.2 3) a2) 3 ((t.2.2.2 3) + 1)) = if okH a0 a1 a2 t then (if t.2.2.2 3 = 12 then sN t 0 2 else yh a0 a1 a2 t) else sN t 0 1 := by
                  rw [if_pos ⟨c_2, c_6, c_10, (fun _ => c_27)⟩, if_neg c_28]; first | done | assumption | rfl
                rw [hfin] at hP hD
                subst hQ
                have hpost : ((nI ((t.2.2.2 3) + 1)) : Int32) = if okH a0 a1 a2 t then (if t.2.2.2 3 = 12 then 0 else nI (t.2.2.2 3 + 1)) else 0 := by
                  rw [if_pos ⟨c_2, c_6, c_10, (fun _ => c_27)⟩, if_neg c_28]; first | done | assumption | rfl
                exact W.iret (v := (nI ((t.2.2.2 3) + 1))) hx hb hr (fun t9 ht hW => ⟨⟨(nI ((t.2.2.2 3) + 1)), (), rfl, hpost, by rw [ht]; exact hP, va_K.moved hW.alike hK, hD⟩, hS.F ht⟩) hS.2.2 de_M_hydro_131
              · skip
                have c_28 : (t.2.2.2 3) = 12 := (nI_eq (a := t.2.2.2 3) (b := 12) (by omega) (by omega)).mp c_28
                refine lv_aload_n hx hb de_M_hydro_75 rfl (lv_at hl 0 rfl) ?_
                refine lv_iconst (v := 2) hx hb de_M_hydro_76 (by decide) ?_
                refine cl_Vi (As := [.int 2]) (rest := []) ⟨hx, hb, hml, hown, hts⟩ (mt_M_fails l dC dI ad T t 2) (cwV 1 hts (uw_V uw_845 uw_847 uw_18 uw_36 uw_848) rfl rfl rfl (by decide +kernel) ⟨Nat.le_of_ble_eq_true rfl, Nat.le_of_ble_eq_true rfl⟩) (va_recv hK hP (ci := 9) (q0 := 0) rfl rfl) rfl hl.1 rfl (Nat.le_of_ble_eq_true rfl) de_M_hydro_77 ⟨Nat.zero_le _, Nat.zero_le _⟩ hK hN hP hD hS hA (fun r_30 _ H locs hw_30 hP hD hS => ?_)
                have hw_30 : r_30 = 0 := hw_30
                obtain ⟨t_31, et_31⟩ : ∃ z, z = sN t 0 2 := ⟨_, rfl⟩
                have hP : va_P (dC, dI) CLS (wM ad T t_31) H := by rw [et_31]; exact hP
                have hD : va_D A (wM ad T t_31) := by rw [et_31]; exact hD
                have hfin : t_31 = if okH a0 a1 a2 t then (if t.2.2.2 3 = 12 then sN t 0 2 else yh a0 a1 a2 t) else sN t 0 1 := by
                  rw [if_pos ⟨c_2, c_6, c_10, (fun _ => c_27)⟩, if_pos c_28]; first | done | assumption | rfl
                rw [hfin] at hP hD
                subst hQ
                have hpost : (r_30 : Int32) = if okH a0 a1 a2 t then (if t.2.2.2 3 = 12 then 0 else nI (t.2.2.2 3 + 1)) else 0 := by
                  rw [if_pos ⟨c_2, c_6, c_10, (fun _ => c_27)⟩, if_pos c_28]; first | done | assumption | rfl
                exact W.iret (v := r_30) hx hb hr (fun t9 ht hW => ⟨⟨r_30, (), rfl, hpost, by rw [ht]; exact hP, va_K.moved hW.alike hK, hD⟩, hS.F ht⟩) hS.2.2 de_M_hydro_80
            · skip
              refine lv_aload_n hx hb de_M_hydro_60 rfl (lv_at hl 0 rfl) ?_
              refine lv_iconst (v := 1) hx hb de_M_hydro_61 (by decide) ?_
              refine cl_Vi (As := [.int 1]) (rest := []) ⟨hx, hb, hml, hown, hts⟩ (mt_M_fails l dC dI ad T t 1) (cwV 1 hts (uw_V uw_845 uw_847 uw_18 uw_36 uw_848) rfl rfl rfl (by decide +kernel) ⟨Nat.le_of_ble_eq_true rfl, Nat.le_of_ble_eq_true rfl⟩) (va_recv hK hP (ci := 9) (q0 := 0) rfl rfl) rfl hl.1 rfl (Nat.le_of_ble_eq_true rfl) de_M_hydro_62 ⟨Nat.zero_le _, Nat.zero_le _⟩ hK hN hP hD hS hA (fun r_32 _ H locs hw_32 hP hD hS => ?_)
              have hw_32 : r_32 = 0 := hw_32
              obtain ⟨t_33, et_33⟩ : ∃ z, z = sN t 0 1 := ⟨_, rfl⟩
              have hP : va_P (dC, dI) CLS (wM ad T t_33) H := by rw [et_33]; exact hP
              have hD : va_D A (wM ad T t_33) := by rw [et_33]; exact hD
              have hfin : t_33 = if okH a0 a1 a2 t then (if t.2.2.2 3 = 12 then sN t 0 2 else yh a0 a1 a2 t) else sN t 0 1 := by
                rw [if_neg (fun h => c_27 (h.2.2.2 c_13))]; assumption
              rw [hfin] at hP hD
              subst hQ
              have hpost : (r_32 : Int32) = if okH a0 a1 a2 t then (if t.2.2.2 3 = 12 then 0 else nI (t.2.2.2 3 + 1)) else 0 := by
                rw [if_neg (fun h => c_27 (h.2.2.2 c_13))]; assumption
              exact W.iret (v := r_32) hx hb hr (fun t9 ht hW => ⟨⟨r_32, (), rfl, hpost, by rw [ht]; exact hP, va_K.moved hW.alike hK, hD⟩, hS.F ht⟩) hS.2.2 de_M_hydro_65
set_option maxHeartbeats 4000000 in
set_option maxRecDepth 100000 in
theorem mt_M_step (l : Launch) (dC : Nat → ClassId) (dI : Nat → Nat → Nat) (ad : Nat → Nat) (T : Nat → ClassId) (t : St) (a0 : Int32) (hI : IvM t) (hE : EM t) (hz : ¬ a0 < 0 → a0 < nI (t.2.2.2 5) → HZ (y_bi a0.toNatClampNeg (sN t 0 0))) (sz : Nat) : Met l yn_M_step (.code yn_M_step cd_M_step 2 (some .int) :: UW) ({ frames := 5, cells := 0, slots := 0, locals := 121 } : Room) (va_Pc [.ref (ad 0), .int a0] (Pw (dC, dI) CLS (TY T) (wM ad T t) sz)) (va_Qi (fun (r : Int32) (_ : Unit) => r = if a0 < 0 then 0 else if a0 < nI (t.2.2.2 5) then nI (y_bn (y_bi a0.toNatClampNeg (sN t 0 0))) else 0) (Bw (dC, dI) CLS (TY T) (fun _ : Unit => (wM ad T (if a0 < 0 then sN t 0 1 else if a0 < nI (t.2.2.2 5) then y_bs (y_bi a0.toNatClampNeg (sN t 0 0)) else sN t 0 1))) (va_A (wM ad T t) sz)) (va_A (wM ad T t) sz)) 0 0 (va_A (wM ad T t) sz) := by
  refine Met.ofW (cc := cd_M_step) (maxL := 2) (ret := (some .int)) (by decide) rfl ?_
  intro p e s m args below meth c s₁ B hml hv
  obtain ⟨rfl, hsz, hP, hK, hD0, hN⟩ := hv
  have hx := B.exec
  have hb := B.bytes
  have hr := B.returns
  have hts : ∀ w ∈ UW, w.before _ s = true := fun w h => atoms_spec (ws := .code yn_M_step cd_M_step 2 (some .int) :: UW) B.pre w (List.mem_cons_of_mem _ h)
  have hown : s.vm.findClass "StabilitySumsModel" = some m.cls := findClass_of_methodNamed B.named
  have hlocks := B.notSynchronized
  subst hsz
  have hD := hD0.self (sz := s.heap.size)
  generalize hAe : va_A (wM ad T t) s.heap.size = A at hD ⊢
  have hA : ∀ q : Nat, s.heap.size ≤ q → A q := fun q h => by rw [← hAe]; exact Or.inr h
  have hS : va_S A s.heap s.heap [] := va_S.rf
  have hl := lv_entry ([.ref (ad 0), .int a0]) (n := 2) (Nat.le_of_ble_eq_true rfl)
  rw [lg_entry_eq]
  generalize (lg_sl ([.ref (ad 0), .int a0]) ++ List.replicate (2 - (lg_sl ([.ref (ad 0), .int a0])).length) Slot.unset).toArray = ls at hl ⊢
  have hl : lv_has ls 2 [(0, .ref (ad 0)), (1, .int a0)] := hl
  generalize hQ : MQ below _ _ s 0 0 A = Q
  obtain ⟨hI1, hI2, hI3, hI4, hI5⟩ := hI
  refine lv_iload_n hx hb de_M_step_0 rfl (lv_at hl 1 rfl) ?_
  refine lv_if_lt (tgt := 12) hx hb de_M_step_1 (by decide) (fun c_1 => ?_) (fun c_1 => ?_)
  · skip
    refine lv_aload_n hx hb de_M_step_12 rfl (lv_at hl 0 rfl) ?_
    refine lv_iconst (v := 1) hx hb de_M_step_13 (by decide) ?_
    refine cl_Vi (As := [.int 1]) (rest := []) ⟨hx, hb, hml, hown, hts⟩ (mt_M_fails l dC dI ad T t 1) (cwV 1 hts (uw_V uw_845 uw_847 uw_18 uw_36 uw_848) rfl rfl rfl (by decide +kernel) ⟨Nat.le_of_ble_eq_true rfl, Nat.le_of_ble_eq_true rfl⟩) (va_recv hK hP (ci := 9) (q0 := 0) rfl rfl) rfl hl.1 rfl (Nat.le_of_ble_eq_true rfl) de_M_step_14 ⟨Nat.zero_le _, Nat.zero_le _⟩ hK hN hP hD hS hA (fun r_2 _ H locs hw_2 hP hD hS => ?_)
    have hw_2 : r_2 = 0 := hw_2
    obtain ⟨t_3, et_3⟩ : ∃ z, z = sN t 0 1 := ⟨_, rfl⟩
    have hP : va_P (dC, dI) CLS (wM ad T t_3) H := by rw [et_3]; exact hP
    have hD : va_D A (wM ad T t_3) := by rw [et_3]; exact hD
    have hfin : t_3 = if a0 < 0 then sN t 0 1 else if a0 < nI (t.2.2.2 5) then y_bs (y_bi a0.toNatClampNeg (sN t 0 0)) else sN t 0 1 := by
      rw [if_pos c_1]; assumption
    rw [hfin] at hP hD
    subst hQ
    have hpost : (r_2 : Int32) = if a0 < 0 then 0 else if a0 < nI (t.2.2.2 5) then nI (y_bn (y_bi a0.toNatClampNeg (sN t 0 0))) else 0 := by
      rw [if_pos c_1]; first | done | assumption | rfl
    exact W.iret (v := r_2) hx hb hr (fun t9 ht hW => ⟨⟨r_2, (), rfl, hpost, by rw [ht]; exact hP, va_K.moved hW.alike hK, hD⟩, hS.F ht⟩) hS.2.2 de_M_step_17
  · skip
    refine lv_iload_n hx hb de_M_step_4 rfl (lv_at hl 1 rfl) ?_
    refine lv_aload_n hx hb de_M_step_5 rfl (lv_at hl 0 rfl) ?_
    refine va_get (D := (dC, dI)) (ci := 9) (v := .int (nI (t.2.2.2 5))) (C := "StabilitySumsModel") (T := TB_M) (N := 33) hx hb hts ui_M hown hK hP 0 rfl rfl 27 (by decide) (hts _ uw_723) (fun _ h9 => h9) rfl de_M_step_6 ?_
    refine lv_icmp_lt (tgt := 18) hx hb de_M_step_9 (by decide) (fun c_4 => ?_) (fun c_4 => ?_)
    · skip
      refine lv_aload_n hx hb de_M_step_18 rfl (lv_at hl 0 rfl) ?_
      refine lv_iconst (v := 0) hx hb de_M_step_19 (by decide) ?_
      refine va_put (D := (dC, dI)) (ci := 9) (v := .int 0) (ty := .int) (C := "StabilitySumsModel") (T := TB_M) (N := 33) hx hb hts ui_M tt_M tk_M nm_M hown hK hP hD hS 0 rfl rfl 0 (by decide) (hts _ uw_696) (fun _ h9 => h9) rfl (by decide +kernel) rfl rfl (Nat.le_of_ble_eq_true rfl) de_M_step_20 (fun H locs hP hD hS => ?_)
      have hP : va_P (dC, dI) CLS (wM ad T (sN t 0 0)) H := hP
      have hD : va_D A (wM ad T (sN t 0 0)) := hD
      refine lv_aload_n hx hb de_M_step_23 rfl (lv_at hl 0 rfl) ?_
      refine lv_iload_n hx hb de_M_step_24 rfl (lv_at hl 1 rfl) ?_
      have hix_25 : a0 = nI a0.toNatClampNeg := cl_eq c_1
      refine cl_Vi (As := [.int a0]) (rest := []) ⟨hx, hb, hml, hown, hts⟩ (fun sz => by have hm9 := (mt_M_brokenBehind l dC dI ad T (sN t 0 0) a0.toNatClampNeg (show IvM t from (by refine ⟨?_, ?_, ?_, ?_, ?_⟩ <;> omega)) (cl_lt (n := t.2.2.2 5) c_1 (Int32.not_le.mpr c_4) (by omega)) hE (hz c_1 c_4)) sz; rw [← hix_25] at hm9; exact hm9) (cwV 1 hts (uw_V uw_929 uw_931 uw_25 uw_36 uw_932) rfl rfl rfl (by decide +kernel) ⟨Nat.le_of_ble_eq_true rfl, Nat.le_of_ble_eq_true rfl⟩) (va_recv hK hP (ci := 9) (q0 := 0) rfl rfl) rfl hl.1 rfl (Nat.le_of_ble_eq_true rfl) de_M_step_25 ⟨Nat.zero_le _, Nat.zero_le _⟩ hK hN hP hD hS hA (fun r_5 _ H locs hw_5 hP hD hS => ?_)
      have hw_5 : r_5 = nI (y_bn (y_bi a0.toNatClampNeg (sN t 0 0))) := hw_5
      subst hw_5
      have : y_bn (y_bi a0.toNatClampNeg (sN t 0 0)) ≤ 0 + (y_bi a0.toNatClampNeg (sN t 0 0)).2.2.2 4 := y_lb_le _ _ _
      obtain ⟨t_6, et_6⟩ : ∃ z, z = y_bs (y_bi a0.toNatClampNeg (sN t 0 0)) := ⟨_, rfl⟩
      have hP : va_P (dC, dI) CLS (wM ad T t_6) H := by rw [et_6]; exact hP
      have hD : va_D A (wM ad T t_6) := by rw [et_6]; exact hD
      obtain ⟨_, _, _, _, _⟩ : N5q t_6 t := by rw [et_6]; have h7 := n6to5 (a := y_bs (y_bi a0.toNatClampNeg (sN t 0 0))) (b := (sN t 0 0)) (((EqB.lb _ _ _).tr (EqB.bi _ _)).six); exact h7
      have hfin : t_6 = if a0 < 0 then sN t 0 1 else if a0 < nI (t.2.2.2 5) then y_bs (y_bi a0.toNatClampNeg (sN t 0 0)) else sN t 0 1 := by
        rw [if_neg c_1, if_pos c_4]; assumption
      rw [hfin] at hP hD
      subst hQ
      have hpost : ((nI (y_bn (y_bi a0.toNatClampNeg (sN t 0 0)))) : Int32) = if a0 < 0 then 0 else if a0 < nI (t.2.2.2 5) then nI (y_bn (y_bi a0.toNatClampNeg (sN t 0 0))) else 0 := by
        rw [if_neg c_1, if_pos c_4]; first | done | assumption | rfl
      exact W.iret (v := (nI (y_bn (y_bi a0.toNatClampNeg (sN t 0 0))))) hx hb hr (fun t9 ht hW => ⟨⟨(nI (y_bn (y_bi a0.toNatClampNeg (sN t 0 0)))), (), rfl, hpost, by rw [ht]; exact hP, va_K.moved hW.alike hK, hD⟩, hS.F ht⟩) hS.2.2 de_M_step_28
    · skip
      refine lv_aload_n hx hb de_M_step_12 rfl (lv_at hl 0 rfl) ?_
      refine lv_iconst (v := 1) hx hb de_M_step_13 (by decide) ?_
      refine cl_Vi (As := [.int 1]) (rest := []) ⟨hx, hb, hml, hown, hts⟩ (mt_M_fails l dC dI ad T t 1) (cwV 1 hts (uw_V uw_845 uw_847 uw_18 uw_36 uw_848) rfl rfl rfl (by decide +kernel) ⟨Nat.le_of_ble_eq_true rfl, Nat.le_of_ble_eq_true rfl⟩) (va_recv hK hP (ci := 9) (q0 := 0) rfl rfl) rfl hl.1 rfl (Nat.le_of_ble_eq_true rfl) de_M_step_14 ⟨Nat.zero_le _, Nat.zero_le _⟩ hK hN hP hD hS hA (fun r_7 _ H locs hw_7 hP hD hS => ?_)
      have hw_7 : r_7 = 0 := hw_7
      obtain ⟨t_8, et_8⟩ : ∃ z, z = sN t 0 1 := ⟨_, rfl⟩
      have hP : va_P (dC, dI) CLS (wM ad T t_8) H := by rw [et_8]; exact hP
      have hD : va_D A (wM ad T t_8) := by rw [et_8]; exact hD
      have hfin : t_8 = if a0 < 0 then sN t 0 1 else if a0 < nI (t.2.2.2 5) then y_bs (y_bi a0.toNatClampNeg (sN t 0 0)) else sN t 0 1 := by
        rw [if_neg c_1, if_neg c_4]; assumption
      rw [hfin] at hP hD
      subst hQ
      have hpost : (r_7 : Int32) = if a0 < 0 then 0 else if a0 < nI (t.2.2.2 5) then nI (y_bn (y_bi a0.toNatClampNeg (sN t 0 0))) else 0 := by
        rw [if_neg c_1, if_neg c_4]; first | done | assumption | rfl
      exact W.iret (v := r_7) hx hb hr (fun t9 ht hW => ⟨⟨r_7, (), rfl, hpost, by rw [ht]; exact hP, va_K.moved hW.alike hK, hD⟩, hS.F ht⟩) hS.2.2 de_M_step_17
set_option maxHeartbeats 4000000 in
set_option maxRecDepth 100000 in
theorem mt_M_broken (l : Launch) (dC : Nat → ClassId) (dI : Nat → Nat → Nat) (ad : Nat → Nat) (T : Nat → ClassId) (t : St)  (hI : IvM t) (hE : EM t) (hz : ∀ (i : Nat) (t' : St), i < t.2.2.2 5 → EqB t' (sN t 0 0) → HZ (y_bi i t')) (sz : Nat) : Met l yn_M_broken (.code yn_M_broken cd_M_broken 2 (some .int) :: UW) ({ frames := 5, cells := 0, slots := 0, locals := 121 } : Room) (va_Pc [.ref (ad 0)] (Pw (dC, dI) CLS (TY T) (wM ad T t) sz)) (va_Qi (fun (r : Int32) (_ : Unit) => r = (y_broken t).1) (Bw (dC, dI) CLS (TY T) (fun _ : Unit => (wM ad T ((y_broken t).2))) (va_A (wM ad T t) sz)) (va_A (wM ad T t) sz)) 0 0 (va_A (wM ad T t) sz) := by
  refine Met.ofW (cc := cd_M_broken) (maxL := 2) (ret := (some .int)) (by decide) rfl ?_
  intro p e s m args below meth c s₁ B hml hv
  obtain ⟨rfl, hsz, hP, hK, hD0, hN⟩ := hv
  have hx := B.exec
  have hb := B.bytes
  have hr := B.returns
  have hts : ∀ w ∈ UW, w.before _ s = true := fun w h => atoms_spec (ws := .code yn_M_broken cd_M_broken 2 (some .int) :: UW) B.pre w (List.mem_cons_of_mem _ h)
  have hown : s.vm.findClass "StabilitySumsModel" = some m.cls := findClass_of_methodNamed B.named
  have hlocks := B.notSynchronized
  subst hsz
  have hD := hD0.self (sz := s.heap.size)
  generalize hAe : va_A (wM ad T t) s.heap.size = A at hD ⊢
  have hA : ∀ q : Nat, s.heap.size ≤ q → A q := fun q h => by rw [← hAe]; exact Or.inr h
  have hS : va_S A s.heap s.heap [] := va_S.rf
  have hl := lv_entry ([.ref (ad 0)]) (n := 2) (Nat.le_of_ble_eq_true rfl)
  rw [lg_entry_eq]
  generalize (lg_sl ([.ref (ad 0)]) ++ List.replicate (2 - (lg_sl ([.ref (ad 0)])).length) Slot.unset).toArray = ls at hl ⊢
  have hl : lv_has ls 2 [(0, .ref (ad 0))] := hl
  generalize hQ : MQ below _ _ s 0 0 A = Q
  obtain ⟨hI1, hI2, hI3, hI4, hI5⟩ := hI
  refine lv_aload_n hx hb de_M_broken_0 rfl (lv_at hl 0 rfl) ?_
  refine lv_iconst (v := 0) hx hb de_M_broken_1 (by decide) ?_
  refine va_put (D := (dC, dI)) (ci := 9) (v := .int 0) (ty := .int) (C := "StabilitySumsModel") (T := TB_M) (N := 33) hx hb hts ui_M tt_M tk_M nm_M hown hK hP hD hS 0 rfl rfl 0 (by decide) (hts _ uw_696) (fun _ h9 => h9) rfl (by decide +kernel) rfl rfl (Nat.le_of_ble_eq_true rfl) de_M_broken_2 (fun H locs hP hD hS => ?_)
  have hP : va_P (dC, dI) CLS (wM ad T (sN t 0 0)) H := hP
  have hD : va_D A (wM ad T (sN t 0 0)) := hD
  refine lv_iconst (v := 0) hx hb de_M_broken_5 (by decide) ?_
  refine lv_istore_n (lv' := [(1, .int 0), (0, .ref (ad 0))]) hx hb de_M_broken_6 rfl hl (by decide) rfl (fun ls hl => ?_)
  have loop_7 : ∀ (n : Nat) (i : Nat) (t1 : St), (i + n = t.2.2.2 5) → (EqB t1 (sN t 0 0)) → (y_br n i t1 = y_broken t) → ∀ (H : Heap) (locs : List Loc) (ls : Array Slot), va_P (dC, dI) CLS (wM ad T t1) H → va_D A (wM ad T t1) → va_S A s.heap H locs → lv_has ls 2 [(0, .ref (ad 0)), (1, .int (nI i))] → W p l e (headSpec (.code yn_M_broken cd_M_broken 2 (some .int) :: UW) ({ frames := 5, cells := 0, slots := 0, locals := 121 } : Room)).room s m ([.ref (ad 0)] : List Value).toArray below meth c H locs 0 0 Q (F0 m 7 ls []) := by
    intro n
    induction n with
    | zero =>
      intro i t1 hi hk hq H locs ls hP hD hS hl
      obtain ⟨_, _, _, _, _⟩ : N5q t1 t := by have h7 := n6to5 hk.six; exact h7
      refine lv_iload_n hx hb de_M_broken_7 rfl (lv_at hl 1 rfl) ?_
      refine lv_aload_n hx hb de_M_broken_8 rfl (lv_at hl 0 rfl) ?_
      refine va_get (D := (dC, dI)) (ci := 9) (v := .int (nI (t1.2.2.2 5))) (C := "StabilitySumsModel") (T := TB_M) (N := 33) hx hb hts ui_M hown hK hP 0 rfl rfl 27 (by decide) (hts _ uw_723) (fun _ h9 => h9) rfl de_M_broken_9 ?_
      refine lv_icmp_ge (tgt := 31) hx hb de_M_broken_12 (by decide) (fun c_1 => ?_) (fun c_1 => ?_)
      · skip
        have c_1 : (t1.2.2.2 5) ≤ i := (nI_leI (a := t1.2.2.2 5) (b := i) (by omega) (by omega)).mp c_1
        refine lv_iconst (v := (-1)) hx hb de_M_broken_31 (by decide) ?_
        have hfin : t1 = (y_broken t).2 := by
          rw [← hq]
          first | rfl | (rw [y_br, if_neg c_1]; assumption)
        rw [hfin] at hP hD
        subst hQ
        have hpost : ((-1) : Int32) = (y_broken t).1 := by
          rw [← hq]
          first | rfl | (rw [y_br, if_neg c_1])
        exact W.iret (v := (-1)) hx hb hr (fun t9 ht hW => ⟨⟨(-1), (), rfl, hpost, by rw [ht]; exact hP, va_K.moved hW.alike hK, hD⟩, hS.F ht⟩) hS.2.2 de_M_broken_32
      · skip
        have c_1 : ¬ ((t1.2.2.2 5) ≤ i) := fun z => c_1 ((nI_leI (a := t1.2.2.2 5) (b := i) (by omega) (by omega)).mpr z)
        exfalso; omega
    | succ n ih =>
      intro i t1 hi hk hq H locs ls hP hD hS hl
      obtain ⟨_, _, _, _, _⟩ : N5q t1 t := by have h7 := n6to5 hk.six; exact h7
      refine lv_iload_n hx hb de_M_broken_7 rfl (lv_at hl 1 rfl) ?_
      refine lv_aload_n hx hb de_M_broken_8 rfl (lv_at hl 0 rfl) ?_
      refine va_get (D := (dC, dI)) (ci := 9) (v := .int (nI (t1.2.2.2 5))) (C := "StabilitySumsModel") (T := TB_M) (N := 33) hx hb hts ui_M hown hK hP 0 rfl rfl 27 (by decide) (hts _ uw_723) (fun _ h9 => h9) rfl de_M_broken_9 ?_
      refine lv_icmp_ge (tgt := 31) hx hb de_M_broken_12 (by decide) (fun c_2 => ?_) (fun c_2 => ?_)
      · skip
        have c_2 : (t1.2.2.2 5) ≤ i := (nI_leI (a := t1.2.2.2 5) (b := i) (by omega) (by omega)).mp c_2
        exfalso; omega
      · skip
        have c_2 : ¬ ((t1.2.2.2 5) ≤ i) := fun z => c_2 ((nI_leI (a := t1.2.2.2 5) (b := i) (by omega) (by omega)).mpr z)
        refine lv_aload_n hx hb de_M_broken_15 rfl (lv_at hl 0 rfl) ?_
        refine lv_iload_n hx hb de_M_broken_16 rfl (lv_at hl 1 rfl) ?_
        refine cl_Vi (As := [.int (nI i)]) (rest := []) ⟨hx, hb, hml, hown, hts⟩ (mt_M_brokenBehind l dC dI ad T t1 i (show IvM t1 from (by refine ⟨?_, ?_, ?_, ?_, ?_⟩ <;> omega)) (show i < t1.2.2.2 5 from by omega) (EM.same (b := sN t 0 0) hE hk) (hz i t1 (by omega) hk)) (cwV 1 hts (uw_V uw_929 uw_931 uw_25 uw_36 uw_932) rfl rfl rfl (by decide +kernel) ⟨Nat.le_of_ble_eq_true rfl, Nat.le_of_ble_eq_true rfl⟩) (va_recv hK hP (ci := 9) (q0 := 0) rfl rfl) rfl hl.1 rfl (Nat.le_of_ble_eq_true rfl) de_M_broken_17 ⟨Nat.zero_le _, Nat.zero_le _⟩ hK hN hP hD hS hA (fun r_3 _ H locs hw_3 hP hD hS => ?_)
        have hw_3 : r_3 = nI (y_bn (y_bi i t1)) := hw_3
        subst hw_3
        have : y_bn (y_bi i t1) ≤ 0 + (y_bi i t1).2.2.2 4 := y_lb_le _ _ _
        obtain ⟨t_4, et_4⟩ : ∃ z, z = y_bs (y_bi i t1) := ⟨_, rfl⟩
        have hP : va_P (dC, dI) CLS (wM ad T t_4) H := by rw [et_4]; exact hP
        have hD : va_D A (wM ad T t_4) := by rw [et_4]; exact hD
        obtain ⟨_, _, _, _, _⟩ : N5q t_4 t1 := by rw [et_4]; have h7 := n6to5 (a := y_bs (y_bi i t1)) (b := t1) (((EqB.lb _ _ _).tr (EqB.bi _ _)).six); exact h7
        have hb6 : (y_bi i t1).2.2.2 4 = t1.2.2.2 4 := (EqB.bi i t1).six.2.2.2.2.1
        refine lv_if_le (tgt := 25) hx hb de_M_broken_20 (by decide) (fun c_5 => ?_) (fun c_5 => ?_)
        · skip
          have c_5 : (y_bn (y_bi i t1)) = 0 := (nle0 (by omega)).mp c_5
          refine lv_iinc (v := (nI (i + 1))) (lv' := [(1, .int (nI (i + 1))), (0, .ref (ad 0))]) hx hb de_M_broken_25 hl (k := 1) rfl (nI_1 i) (by decide) rfl (fun ls hl => ?_)
          refine lv_goto (tgt := 7) hx hb de_M_broken_28 (by decide) ?_
          exact ih (i + 1) t_4 (by omega) (by rw [et_4]; exact ((EqB.lb _ _ _).tr (EqB.bi _ _)).tr hk) (by rw [← hq, y_br, if_pos c_5, et_4]) H locs ls hP hD hS (lv_sub hl [1, 0] rfl)
        · skip
          have c_5 : ¬ (y_bn (y_bi i t1)) = 0 := fun z => c_5 ((nle0 (by omega)).mpr z)
          refine lv_iload_n hx hb de_M_broken_23 rfl (lv_at hl 1 rfl) ?_
          have hfin : t_4 = (y_broken t).2 := by
            rw [← hq]
            first | rfl | (rw [y_br, if_neg c_5]; assumption)
          rw [hfin] at hP hD
          subst hQ
          have hpost : ((nI i) : Int32) = (y_broken t).1 := by
            rw [← hq]
            first | rfl | (rw [y_br, if_neg c_5])
          exact W.iret (v := (nI i)) hx hb hr (fun t9 ht hW => ⟨⟨(nI i), (), rfl, hpost, by rw [ht]; exact hP, va_K.moved hW.alike hK, hD⟩, hS.F ht⟩) hS.2.2 de_M_broken_24
  exact loop_7 (t.2.2.2 5) 0 (sN t 0 0) (by omega) (EqB.rf _) rfl _ _ ls hP hD hS (lv_sub hl [1, 0] rfl)
set_option maxHeartbeats 4000000 in
set_option maxRecDepth 100000 in
theorem mt_M_count (l : Launch) (dC : Nat → ClassId) (dI : Nat → Nat → Nat) (ad : Nat → Nat) (T : Nat → ClassId) (t : St) (a0 : Int32) (hI : IvM t) (sz : Nat) : Met l yn_M_count (.code yn_M_count cd_M_count 4 (some .int) :: UW) ({ frames := 0, cells := 0, slots := 0, locals := 0 } : Room) (va_Pc [.ref (ad 0), .int a0] (Pw (dC, dI) CLS (TY T) (wM ad T t) sz)) (va_Qi (fun (r : Int32) (_ : Unit) => r = y_cnt a0 t) (Bw (dC, dI) CLS (TY T) (fun _ : Unit => (wM ad T (sN t 0 0))) (va_A (wM ad T t) sz)) (va_A (wM ad T t) sz)) 0 0 (va_A (wM ad T t) sz) := by
  refine Met.ofW (cc := cd_M_count) (maxL := 4) (ret := (some .int)) (by decide) rfl ?_
  intro p e s m args below meth c s₁ B hml hv
  obtain ⟨rfl, hsz, hP, hK, hD0, hN⟩ := hv
  have hx := B.exec
  have hb := B.bytes
  have hr := B.returns
  have hts : ∀ w ∈ UW, w.before _ s = true := fun w h => atoms_spec (ws := .code yn_M_count cd_M_count 4 (some .int) :: UW) B.pre w (List.mem_cons_of_mem _ h)
  have hown : s.vm.findClass "StabilitySumsModel" = some m.cls := findClass_of_methodNamed B.named
  have hlocks := B.notSynchronized
  subst hsz
  have hD := hD0.self (sz := s.heap.size)
  generalize hAe : va_A (wM ad T t) s.heap.size = A at hD ⊢
  have hA : ∀ q : Nat, s.heap.size ≤ q → A q := fun q h => by rw [← hAe]; exact Or.inr h
  have hS : va_S A s.heap s.heap [] := va_S.rf
  have hl := lv_entry ([.ref (ad 0), .int a0]) (n := 4) (Nat.le_of_ble_eq_true rfl)
  rw [lg_entry_eq]
  generalize (lg_sl ([.ref (ad 0), .int a0]) ++ List.replicate (4 - (lg_sl ([.ref (ad 0), .int a0])).length) Slot.unset).toArray = ls at hl ⊢
  have hl : lv_has ls 4 [(0, .ref (ad 0)), (1, .int a0)] := hl
  generalize hQ : MQ below _ _ s 0 0 A = Q
  obtain ⟨hI1, hI2, hI3, hI4, hI5⟩ := hI
  refine lv_aload_n hx hb de_M_count_0 rfl (lv_at hl 0 rfl) ?_
  refine lv_iconst (v := 0) hx hb de_M_count_1 (by decide) ?_
  refine va_put (D := (dC, dI)) (ci := 9) (v := .int 0) (ty := .int) (C := "StabilitySumsModel") (T := TB_M) (N := 33) hx hb hts ui_M tt_M tk_M nm_M hown hK hP hD hS 0 rfl rfl 0 (by decide) (hts _ uw_696) (fun _ h9 => h9) rfl (by decide +kernel) rfl rfl (Nat.le_of_ble_eq_true rfl) de_M_count_2 (fun H locs hP hD hS => ?_)
  have hP : va_P (dC, dI) CLS (wM ad T (sN t 0 0)) H := hP
  have hD : va_D A (wM ad T (sN t 0 0)) := hD
  refine lv_iconst (v := 0) hx hb de_M_count_5 (by decide) ?_
  refine lv_istore_n (lv' := [(2, .int 0), (0, .ref (ad 0)), (1, .int a0)]) hx hb de_M_count_6 rfl hl (by decide) rfl (fun ls hl => ?_)
  refine lv_iconst (v := 0) hx hb de_M_count_7 (by decide) ?_
  refine lv_istore_n (lv' := [(3, .int 0), (2, .int 0), (0, .ref (ad 0)), (1, .int a0)]) hx hb de_M_count_8 rfl hl (by decide) rfl (fun ls hl => ?_)
  have loop_9 : ∀ (n : Nat) (i : Nat) (a : Nat), (i + n = t.2.2.2 2) → (a ≤ i) → (y_cs t.1 n i a = y_cs t.1 (t.2.2.2 2) 0 0) → ∀ (H : Heap) (locs : List Loc) (ls : Array Slot), va_P (dC, dI) CLS (wM ad T (sN t 0 0)) H → va_D A (wM ad T (sN t 0 0)) → va_S A s.heap H locs → lv_has ls 4 [(0, .ref (ad 0)), (1, .int a0), (2, .int (nI a)), (3, .int (nI i))] → W p l e (headSpec (.code yn_M_count cd_M_count 4 (some .int) :: UW) ({ frames := 0, cells := 0, slots := 0, locals := 0 } : Room)).room s m ([.ref (ad 0), .int a0] : List Value).toArray below meth c H locs 0 0 Q (F0 m 9 ls []) := by
    intro n
    induction n with
    | zero =>
      intro i a hi ha hq H locs ls hP hD hS hl
      refine lv_iload_n hx hb de_M_count_9 rfl (lv_at hl 3 rfl) ?_
      refine lv_aload_n hx hb de_M_count_10 rfl (lv_at hl 0 rfl) ?_
      refine va_get (D := (dC, dI)) (ci := 9) (v := .int (nI (t.2.2.2 2))) (C := "StabilitySumsModel") (T := TB_M) (N := 33) hx hb hts ui_M hown hK hP 0 rfl rfl 6 (by decide) (hts _ uw_702) (fun _ h9 => h9) rfl de_M_count_11 ?_
      refine lv_icmp_ge (tgt := 58) hx hb de_M_count_14 (by decide) (fun c_1 => ?_) (fun c_1 => ?_)
      · skip
        have c_1 : (t.2.2.2 2) ≤ i := (nI_leI (a := t.2.2.2 2) (b := i) (by omega) (by omega)).mp c_1
        refine lv_iload_n hx hb de_M_count_58 rfl (lv_at hl 1 rfl) ?_
        by_cases c_2_0 : a0 = 0
        · skip
          refine lv_tableIn (tgt := 96) hx hb de_M_count_59 (by rw [c_2_0]; decide) (by rw [c_2_0]; decide) (by rw [c_2_0]; rfl) (by decide) ?_
          refine lv_aload_n hx hb de_M_count_96 rfl (lv_at hl 0 rfl) ?_
          refine va_get (D := (dC, dI)) (ci := 9) (v := .int (nI (t.2.2.2 1))) (C := "StabilitySumsModel") (T := TB_M) (N := 33) hx hb hts ui_M hown hK hP 0 rfl rfl 1 (by decide) (hts _ uw_697) (fun _ h9 => h9) rfl de_M_count_97 ?_
          have hfin : (sN t 0 0) = sN t 0 0 := by
            rfl
          rw [hfin] at hP hD
          subst hQ
          have hpost : ((nI (t.2.2.2 1)) : Int32) = y_cnt a0 t := by
            have ha9 : a = _ := hq
            unfold y_cnt; rw [if_pos c_2_0]; first | done | rfl | (rw [ha9])
          exact W.iret (v := (nI (t.2.2.2 1))) hx hb hr (fun t9 ht hW => ⟨⟨(nI (t.2.2.2 1)), (), rfl, hpost, by rw [ht]; exact hP, va_K.moved hW.alike hK, hD⟩, hS.F ht⟩) hS.2.2 de_M_count_100
        by_cases c_2_1 : a0 = 1
        · skip
          refine lv_tableIn (tgt := 101) hx hb de_M_count_59 (by rw [c_2_1]; decide) (by rw [c_2_1]; decide) (by rw [c_2_1]; rfl) (by decide) ?_
          refine lv_aload_n hx hb de_M_count_101 rfl (lv_at hl 0 rfl) ?_
          refine va_get (D := (dC, dI)) (ci := 9) (v := .int (nI (t.2.2.2 2))) (C := "StabilitySumsModel") (T := TB_M) (N := 33) hx hb hts ui_M hown hK hP 0 rfl rfl 6 (by decide) (hts _ uw_702) (fun _ h9 => h9) rfl de_M_count_102 ?_
          have hfin : (sN t 0 0) = sN t 0 0 := by
            rfl
          rw [hfin] at hP hD
          subst hQ
          have hpost : ((nI (t.2.2.2 2)) : Int32) = y_cnt a0 t := by
            have ha9 : a = _ := hq
            unfold y_cnt; rw [if_neg c_2_0, if_pos c_2_1]; first | done | rfl | (rw [ha9])
          exact W.iret (v := (nI (t.2.2.2 2))) hx hb hr (fun t9 ht hW => ⟨⟨(nI (t.2.2.2 2)), (), rfl, hpost, by rw [ht]; exact hP, va_K.moved hW.alike hK, hD⟩, hS.F ht⟩) hS.2.2 de_M_count_105
        by_cases c_2_2 : a0 = 2
        · skip
          refine lv_tableIn (tgt := 106) hx hb de_M_count_59 (by rw [c_2_2]; decide) (by rw [c_2_2]; decide) (by rw [c_2_2]; rfl) (by decide) ?_
          refine lv_aload_n hx hb de_M_count_106 rfl (lv_at hl 0 rfl) ?_
          refine va_get (D := (dC, dI)) (ci := 9) (v := .int (nI (t.2.2.2 3))) (C := "StabilitySumsModel") (T := TB_M) (N := 33) hx hb hts ui_M hown hK hP 0 rfl rfl 16 (by decide) (hts _ uw_712) (fun _ h9 => h9) rfl de_M_count_107 ?_
          have hfin : (sN t 0 0) = sN t 0 0 := by
            rfl
          rw [hfin] at hP hD
          subst hQ
          have hpost : ((nI (t.2.2.2 3)) : Int32) = y_cnt a0 t := by
            have ha9 : a = _ := hq
            unfold y_cnt; rw [if_neg c_2_0, if_neg c_2_1, if_pos c_2_2]; first | done | rfl | (rw [ha9])
          exact W.iret (v := (nI (t.2.2.2 3))) hx hb hr (fun t9 ht hW => ⟨⟨(nI (t.2.2.2 3)), (), rfl, hpost, by rw [ht]; exact hP, va_K.moved hW.alike hK, hD⟩, hS.F ht⟩) hS.2.2 de_M_count_110
        by_cases c_2_3 : a0 = 3
        · skip
          refine lv_tableIn (tgt := 111) hx hb de_M_count_59 (by rw [c_2_3]; decide) (by rw [c_2_3]; decide) (by rw [c_2_3]; rfl) (by decide) ?_
          refine lv_aload_n hx hb de_M_count_111 rfl (lv_at hl 0 rfl) ?_
          refine va_get (D := (dC, dI)) (ci := 9) (v := .int (nI (t.2.2.2 4))) (C := "StabilitySumsModel") (T := TB_M) (N := 33) hx hb hts ui_M hown hK hP 0 rfl rfl 22 (by decide) (hts _ uw_718) (fun _ h9 => h9) rfl de_M_count_112 ?_
          have hfin : (sN t 0 0) = sN t 0 0 := by
            rfl
          rw [hfin] at hP hD
          subst hQ
          have hpost : ((nI (t.2.2.2 4)) : Int32) = y_cnt a0 t := by
            have ha9 : a = _ := hq
            unfold y_cnt; rw [if_neg c_2_0, if_neg c_2_1, if_neg c_2_2, if_pos c_2_3]; first | done | rfl | (rw [ha9])
          exact W.iret (v := (nI (t.2.2.2 4))) hx hb hr (fun t9 ht hW => ⟨⟨(nI (t.2.2.2 4)), (), rfl, hpost, by rw [ht]; exact hP, va_K.moved hW.alike hK, hD⟩, hS.F ht⟩) hS.2.2 de_M_count_115
        by_cases c_2_4 : a0 = 4
        · skip
          refine lv_tableIn (tgt := 116) hx hb de_M_count_59 (by rw [c_2_4]; decide) (by rw [c_2_4]; decide) (by rw [c_2_4]; rfl) (by decide) ?_
          refine lv_aload_n hx hb de_M_count_116 rfl (lv_at hl 0 rfl) ?_
          refine va_get (D := (dC, dI)) (ci := 9) (v := .int (nI (t.2.2.2 5))) (C := "StabilitySumsModel") (T := TB_M) (N := 33) hx hb hts ui_M hown hK hP 0 rfl rfl 27 (by decide) (hts _ uw_723) (fun _ h9 => h9) rfl de_M_count_117 ?_
          have hfin : (sN t 0 0) = sN t 0 0 := by
            rfl
          rw [hfin] at hP hD
          subst hQ
          have hpost : ((nI (t.2.2.2 5)) : Int32) = y_cnt a0 t := by
            have ha9 : a = _ := hq
            unfold y_cnt; rw [if_neg c_2_0, if_neg c_2_1, if_neg c_2_2, if_neg c_2_3, if_pos c_2_4]; first | done | rfl | (rw [ha9])
          exact W.iret (v := (nI (t.2.2.2 5))) hx hb hr (fun t9 ht hW => ⟨⟨(nI (t.2.2.2 5)), (), rfl, hpost, by rw [ht]; exact hP, va_K.moved hW.alike hK, hD⟩, hS.F ht⟩) hS.2.2 de_M_count_120
        by_cases c_2_5 : a0 = 5
        · skip
          refine lv_tableIn (tgt := 121) hx hb de_M_count_59 (by rw [c_2_5]; decide) (by rw [c_2_5]; decide) (by rw [c_2_5]; rfl) (by decide) ?_
          refine lv_iload_n hx hb de_M_count_121 rfl (lv_at hl 2 rfl) ?_
          have hfin : (sN t 0 0) = sN t 0 0 := by
            rfl
          rw [hfin] at hP hD
          subst hQ
          have hpost : ((nI a) : Int32) = y_cnt a0 t := by
            have ha9 : a = _ := hq
            unfold y_cnt; rw [if_neg c_2_0, if_neg c_2_1, if_neg c_2_2, if_neg c_2_3, if_neg c_2_4, if_pos c_2_5]; first | done | rfl | (rw [ha9])
          exact W.iret (v := (nI a)) hx hb hr (fun t9 ht hW => ⟨⟨(nI a), (), rfl, hpost, by rw [ht]; exact hP, va_K.moved hW.alike hK, hD⟩, hS.F ht⟩) hS.2.2 de_M_count_122
        have c_2_o : a0.toInt < 0 ∨ 5 < a0.toInt := sw_out0_5 c_2_0 c_2_1 c_2_2 c_2_3 c_2_4 c_2_5
        refine lv_tableOut (tgt := 123) hx hb de_M_count_59 c_2_o (by decide) ?_
        refine lv_iconst (v := (-1)) hx hb de_M_count_123 (by decide) ?_
        have hfin : (sN t 0 0) = sN t 0 0 := by
          rfl
        rw [hfin] at hP hD
        subst hQ
        have hpost : ((-1) : Int32) = y_cnt a0 t := by
          have ha9 : a = _ := hq
          unfold y_cnt; rw [if_neg c_2_0, if_neg c_2_1, if_neg c_2_2, if_neg c_2_3, if_neg c_2_4, if_neg c_2_5]; first | done | rfl | (rw [ha9])
        exact W.iret (v := (-1)) hx hb hr (fun t9 ht hW => ⟨⟨(-1), (), rfl, hpost, by rw [ht]; exact hP, va_K.moved hW.alike hK, hD⟩, hS.F ht⟩) hS.2.2 de_M_count_124
      · skip
        have c_1 : ¬ ((t.2.2.2 2) ≤ i) := fun z => c_1 ((nI_leI (a := t.2.2.2 2) (b := i) (by omega) (by omega)).mpr z)
        exfalso; omega
    | succ n ih =>
      intro i a hi ha hq H locs ls hP hD hS hl
      refine lv_iload_n hx hb de_M_count_9 rfl (lv_at hl 3 rfl) ?_
      refine lv_aload_n hx hb de_M_count_10 rfl (lv_at hl 0 rfl) ?_
      refine va_get (D := (dC, dI)) (ci := 9) (v := .int (nI (t.2.2.2 2))) (C := "StabilitySumsModel") (T := TB_M) (N := 33) hx hb hts ui_M hown hK hP 0 rfl rfl 6 (by decide) (hts _ uw_702) (fun _ h9 => h9) rfl de_M_count_11 ?_
      refine lv_icmp_ge (tgt := 58) hx hb de_M_count_14 (by decide) (fun c_3 => ?_) (fun c_3 => ?_)
      · skip
        have c_3 : (t.2.2.2 2) ≤ i := (nI_leI (a := t.2.2.2 2) (b := i) (by omega) (by omega)).mp c_3
        exfalso; omega
      · skip
        have c_3 : ¬ ((t.2.2.2 2) ≤ i) := fun z => c_3 ((nI_leI (a := t.2.2.2 2) (b := i) (by omega) (by omega)).mpr z)
        refine lv_iload_n hx hb de_M_count_17 rfl (lv_at hl 2 rfl) ?_
        refine lv_aload_n hx hb de_M_count_18 rfl (lv_at hl 0 rfl) ?_
        refine va_get (D := (dC, dI)) (ci := 9) (v := .ref (ad 10)) (C := "StabilitySumsModel") (T := TB_M) (N := 33) hx hb hts ui_M hown hK hP 0 rfl rfl 12 (by decide) (hts _ uw_708) (fun _ h9 => h9) rfl de_M_count_19 ?_
        refine lv_iload_n hx hb de_M_count_22 rfl (lv_at hl 3 rfl) ?_
        refine rw_lald (f := t.1 9) (j := i) hx hb hK hP 10 0 rfl rfl (by omega) (by decide) de_M_count_23 ?_
        refine lv_lconst (v := 0) hx hb de_M_count_24 (by decide) ?_
        refine rw_le (tgt := 49) hx hb de_M_count_25 de_M_count_26 (by decide) (fun c_4 => ?_) (fun c_4 => ?_)
        · skip
          refine lv_iconst (v := 0) hx hb de_M_count_49 (by decide) ?_
          refine lv_iadd hx hb de_M_count_50 ?_
          refine lv_topi (fun v_5 ev_5 => ?_)
          have ev_5 : v_5 = (nI (a + 0)) := ev_5.trans (nI_add a 0)
          subst ev_5
          refine lv_istore_n (lv' := [(2, .int (nI (a + 0))), (0, .ref (ad 0)), (1, .int a0), (3, .int (nI i))]) hx hb de_M_count_51 rfl hl (by decide) rfl (fun ls hl => ?_)
          refine lv_iinc (v := (nI (i + 1))) (lv' := [(3, .int (nI (i + 1))), (2, .int (nI (a + 0))), (0, .ref (ad 0)), (1, .int a0)]) hx hb de_M_count_52 hl (k := 3) rfl (nI_1 i) (by decide) rfl (fun ls hl => ?_)
          refine lv_goto (tgt := 9) hx hb de_M_count_55 (by decide) ?_
          exact ih (i + 1) (a + 0) (by omega) (by omega) (by rw [← hq, y_cs]; first | (rw [if_pos c_4]; done) | (exact congrArg (y_cs t.1 n (i + 1)) (by rw [if_pos c_4]; done))) H locs ls hP hD hS (lv_sub hl [2, 3, 1, 0] rfl)
        · skip
          refine lv_aload_n hx hb de_M_count_29 rfl (lv_at hl 0 rfl) ?_
          refine va_get (D := (dC, dI)) (ci := 9) (v := .ref (ad 10)) (C := "StabilitySumsModel") (T := TB_M) (N := 33) hx hb hts ui_M hown hK hP 0 rfl rfl 12 (by decide) (hts _ uw_708) (fun _ h9 => h9) rfl de_M_count_30 ?_
          refine lv_iload_n hx hb de_M_count_33 rfl (lv_at hl 3 rfl) ?_
          refine rw_lald (f := t.1 9) (j := i) hx hb hK hP 10 0 rfl rfl (by omega) (by decide) de_M_count_34 ?_
          refine lv_aload_n hx hb de_M_count_35 rfl (lv_at hl 0 rfl) ?_
          refine va_get (D := (dC, dI)) (ci := 9) (v := .ref (ad 5)) (C := "StabilitySumsModel") (T := TB_M) (N := 33) hx hb hts ui_M hown hK hP 0 rfl rfl 7 (by decide) (hts _ uw_703) (fun _ h9 => h9) rfl de_M_count_36 ?_
          refine lv_iload_n hx hb de_M_count_39 rfl (lv_at hl 3 rfl) ?_
          refine rw_lald (f := t.1 4) (j := i) hx hb hK hP 5 0 rfl rfl (by omega) (by decide) de_M_count_40 ?_
          refine rw_ge (tgt := 49) hx hb de_M_count_41 de_M_count_42 (by decide) (fun c_6 => ?_) (fun c_6 => ?_)
          · skip
            refine lv_iconst (v := 0) hx hb de_M_count_49 (by decide) ?_
            refine lv_iadd hx hb de_M_count_50 ?_
            refine lv_topi (fun v_7 ev_7 => ?_)
            have ev_7 : v_7 = (nI (a + 0)) := ev_7.trans (nI_add a 0)
            subst ev_7
            refine lv_istore_n (lv' := [(2, .int (nI (a + 0))), (0, .ref (ad 0)), (1, .int a0), (3, .int (nI i))]) hx hb de_M_count_51 rfl hl (by decide) rfl (fun ls hl => ?_)
            refine lv_iinc (v := (nI (i + 1))) (lv' := [(3, .int (nI (i + 1))), (2, .int (nI (a + 0))), (0, .ref (ad 0)), (1, .int a0)]) hx hb de_M_count_52 hl (k := 3) rfl (nI_1 i) (by decide) rfl (fun ls hl => ?_)
            refine lv_goto (tgt := 9) hx hb de_M_count_55 (by decide) ?_
            exact ih (i + 1) (a + 0) (by omega) (by omega) (by rw [← hq, y_cs]; first | (rw [if_neg c_4, if_pos c_6]; done) | (exact congrArg (y_cs t.1 n (i + 1)) (by rw [if_neg c_4, if_pos c_6]; done))) H locs ls hP hD hS (lv_sub hl [2, 3, 1, 0] rfl)
          · skip
            refine lv_iconst (v := 1) hx hb de_M_count_45 (by decide) ?_
            refine lv_goto (tgt := 50) hx hb de_M_count_46 (by decide) ?_
            refine lv_iadd hx hb de_M_count_50 ?_
            refine lv_topi (fun v_8 ev_8 => ?_)
            have ev_8 : v_8 = (nI (a + 1)) := ev_8.trans (nI_add a 1)
            subst ev_8
            refine lv_istore_n (lv' := [(2, .int (nI (a + 1))), (0, .ref (ad 0)), (1, .int a0), (3, .int (nI i))]) hx hb de_M_count_51 rfl hl (by decide) rfl (fun ls hl => ?_)
            refine lv_iinc (v := (nI (i + 1))) (lv' := [(3, .int (nI (i + 1))), (2, .int (nI (a + 1))), (0, .ref (ad 0)), (1, .int a0)]) hx hb de_M_count_52 hl (k := 3) rfl (nI_1 i) (by decide) rfl (fun ls hl => ?_)
            refine lv_goto (tgt := 9) hx hb de_M_count_55 (by decide) ?_
            exact ih (i + 1) (a + 1) (by omega) (by omega) (by rw [← hq, y_cs]; first | (rw [if_neg c_4, if_neg c_6]; done) | (exact congrArg (y_cs t.1 n (i + 1)) (by rw [if_neg c_4, if_neg c_6]; done))) H locs ls hP hD hS (lv_sub hl [2, 3, 1, 0] rfl)
  exact loop_9 (t.2.2.2 2) 0 0 (by omega) (by omega) rfl _ _ ls hP hD hS (lv_sub hl [2, 3, 1, 0] rfl)
set_option maxHeartbeats 4000000 in
set_option maxRecDepth 100000 in
theorem mt_M_plan (l : Launch) (dC : Nat → ClassId) (dI : Nat → Nat → Nat) (ad : Nat → Nat) (T : Nat → ClassId) (t : St) (a0 : Int32) (a1 : Int32) (a2 : Int64) (hI : IvM t) (sz : Nat) : Met l yn_M_plan (.code yn_M_plan cd_M_plan 5 (some .int) :: UW) ({ frames := 1, cells := 0, slots := 0, locals := 25 } : Room) (va_Pc [.ref (ad 0), .int a0, .int a1, .long a2] (Pw (dC, dI) CLS (TY T) (wM ad T t) sz)) (va_Qi (fun (r : Int32) (_ : Unit) => r = y_pl3 a0 a1 a2 t 0 0 0 (nI (t.2.2.2 5))) (Bw (dC, dI) CLS (TY T) (fun _ : Unit => (wM ad T (y_pl3 a0 a1 a2 t (sN t 0 1) (sN t 0 2) (sN t 0 3) (yp a0 a1 a2 t)))) (va_A (wM ad T t) sz)) (va_A (wM ad T t) sz)) 0 0 (va_A (wM ad T t) sz) := by
  refine Met.ofW (cc := cd_M_plan) (maxL := 5) (ret := (some .int)) (by decide) rfl ?_
  intro p e s m args below meth c s₁ B hml hv
  obtain ⟨rfl, hsz, hP, hK, hD0, hN⟩ := hv
  have hx := B.exec
  have hb := B.bytes
  have hr := B.returns
  have hts : ∀ w ∈ UW, w.before _ s = true := fun w h => atoms_spec (ws := .code yn_M_plan cd_M_plan 5 (some .int) :: UW) B.pre w (List.mem_cons_of_mem _ h)
  have hown : s.vm.findClass "StabilitySumsModel" = some m.cls := findClass_of_methodNamed B.named
  have hlocks := B.notSynchronized
  subst hsz
  have hD := hD0.self (sz := s.heap.size)
  generalize hAe : va_A (wM ad T t) s.heap.size = A at hD ⊢
  have hA : ∀ q : Nat, s.heap.size ≤ q → A q := fun q h => by rw [← hAe]; exact Or.inr h
  have hS : va_S A s.heap s.heap [] := va_S.rf
  have hl := lv_entry ([.ref (ad 0), .int a0, .int a1, .long a2]) (n := 5) (Nat.le_of_ble_eq_true rfl)
  rw [lg_entry_eq]
  generalize (lg_sl ([.ref (ad 0), .int a0, .int a1, .long a2]) ++ List.replicate (5 - (lg_sl ([.ref (ad 0), .int a0, .int a1, .long a2])).length) Slot.unset).toArray = ls at hl ⊢
  have hl : lv_has ls 5 [(0, .ref (ad 0)), (1, .int a0), (2, .int a1), (3, .long a2)] := hl
  generalize hQ : MQ below _ _ s 0 0 A = Q
  obtain ⟨hI1, hI2, hI3, hI4, hI5⟩ := hI
  refine lv_iload_n hx hb de_M_plan_0 rfl (lv_at hl 2 rfl) ?_
  refine lv_if_lt (tgt := 23) hx hb de_M_plan_1 (by decide) (fun c_1 => ?_) (fun c_1 => ?_)
  · skip
    refine lv_aload_n hx hb de_M_plan_23 rfl (lv_at hl 0 rfl) ?_
    refine lv_iconst (v := 1) hx hb de_M_plan_24 (by decide) ?_
    refine cl_Vi (As := [.int 1]) (rest := []) ⟨hx, hb, hml, hown, hts⟩ (mt_M_fails l dC dI ad T t 1) (cwV 1 hts (uw_V uw_845 uw_847 uw_18 uw_36 uw_848) rfl rfl rfl (by decide +kernel) ⟨Nat.le_of_ble_eq_true rfl, Nat.le_of_ble_eq_true rfl⟩) (va_recv hK hP (ci := 9) (q0 := 0) rfl rfl) rfl hl.1 rfl (Nat.le_of_ble_eq_true rfl) de_M_plan_25 ⟨Nat.zero_le _, Nat.zero_le _⟩ hK hN hP hD hS hA (fun r_2 _ H locs hw_2 hP hD hS => ?_)
    have hw_2 : r_2 = 0 := hw_2
    obtain ⟨t_3, et_3⟩ : ∃ z, z = sN t 0 1 := ⟨_, rfl⟩
    have hP : va_P (dC, dI) CLS (wM ad T t_3) H := by rw [et_3]; exact hP
    have hD : va_D A (wM ad T t_3) := by rw [et_3]; exact hD
    have hfin : t_3 = y_pl3 a0 a1 a2 t (sN t 0 1) (sN t 0 2) (sN t 0 3) (yp a0 a1 a2 t) := by
      unfold y_pl3; rw [if_pos c_1]; first | done | assumption
    rw [hfin] at hP hD
    subst hQ
    have hpost : (r_2 : Int32) = y_pl3 a0 a1 a2 t 0 0 0 (nI (t.2.2.2 5)) := by
      unfold y_pl3; rw [if_pos c_1]; first | done | assumption
    exact W.iret (v := r_2) hx hb hr (fun t9 ht hW => ⟨⟨r_2, (), rfl, hpost, by rw [ht]; exact hP, va_K.moved hW.alike hK, hD⟩, hS.F ht⟩) hS.2.2 de_M_plan_28
  · skip
    refine lv_iload_n hx hb de_M_plan_4 rfl (lv_at hl 2 rfl) ?_
    refine lv_iload_n hx hb de_M_plan_5 rfl (lv_at hl 1 rfl) ?_
    refine lv_if_eq (tgt := 16) hx hb de_M_plan_6 (by decide) (fun c_4 => ?_) (fun c_4 => ?_)
    · skip
      refine lv_aload_n hx hb de_M_plan_16 rfl (lv_at hl 0 rfl) ?_
      refine va_get (D := (dC, dI)) (ci := 9) (v := .int (nI (t.2.2.2 1))) (C := "StabilitySumsModel") (T := TB_M) (N := 33) hx hb hts ui_M hown hK hP 0 rfl rfl 1 (by decide) (hts _ uw_697) (fun _ h9 => h9) rfl de_M_plan_17 ?_
      refine lv_icmp_lt (tgt := 29) hx hb de_M_plan_20 (by decide) (fun c_5 => ?_) (fun c_5 => ?_)
      · skip
        refine lv_iload_n hx hb de_M_plan_29 rfl (lv_at hl 1 rfl) ?_
        refine lv_if_eq (tgt := 50) hx hb de_M_plan_30 (by decide) (fun c_6 => ?_) (fun c_6 => ?_)
        · skip
          refine lv_lload_n hx hb de_M_plan_50 rfl (lv_at hl 3 rfl) ?_
          refine lv_ldc2 (v := (-100000)) hx hb hown (hts _ uw_865) de_M_plan_51 ?_
          refine lv_ldc2 (v := 100000) hx hb hown (hts _ uw_866) de_M_plan_54 ?_
          refine cl_Si (As := [.long a2, .long (-100000), .long 100000]) (rest := []) ⟨hx, hb, hml, hown, hts⟩ (mt_M_in l dC dI ad T t a2 (-100000) 100000) (va_cwS 3 hts (uw_S uw_842 uw_843 uw_36 uw_844) rfl rfl rfl (by decide +kernel) ⟨Nat.le_of_ble_eq_true rfl, Nat.le_of_ble_eq_true rfl⟩) rfl hl.1 rfl (Nat.le_of_ble_eq_true rfl) de_M_plan_57 ⟨Nat.zero_le _, Nat.zero_le _⟩ hK hN hP hD hS hA (fun r_7 _ H locs hw_7 hP hD hS => ?_)
          have hw_7 : bz r_7 (x_in a2 (-100000) 100000) := hw_7
          refine lv_if_ne (tgt := 69) hx hb de_M_plan_60 (by decide) (fun c_8 => ?_) (fun c_8 => ?_)
          · skip
            have c_8 := bz_t hw_7 c_8
            refine lv_aload_n hx hb de_M_plan_69 rfl (lv_at hl 0 rfl) ?_
            refine va_get (D := (dC, dI)) (ci := 9) (v := .int (nI (t.2.2.2 5))) (C := "StabilitySumsModel") (T := TB_M) (N := 33) hx hb hts ui_M hown hK hP 0 rfl rfl 27 (by decide) (hts _ uw_723) (fun _ h9 => h9) rfl de_M_plan_70 ?_
            refine lv_bipush (v := 20) hx hb de_M_plan_73 (by decide) ?_
            refine lv_icmp_ne (tgt := 84) hx hb de_M_plan_75 (by decide) (fun c_9 => ?_) (fun c_9 => ?_)
            · skip
              have c_9 : ¬ ((t.2.2.2 5) = 20) := fun z => c_9 ((nI_eq (a := t.2.2.2 5) (b := 20) (by omega) (by omega)).mpr z)
              refine lv_aload_n hx hb de_M_plan_84 rfl (lv_at hl 0 rfl) ?_
              refine lv_iconst (v := 0) hx hb de_M_plan_85 (by decide) ?_
              refine va_put (D := (dC, dI)) (ci := 9) (v := .int 0) (ty := .int) (C := "StabilitySumsModel") (T := TB_M) (N := 33) hx hb hts ui_M tt_M tk_M nm_M hown hK hP hD hS 0 rfl rfl 0 (by decide) (hts _ uw_696) (fun _ h9 => h9) rfl (by decide +kernel) rfl rfl (Nat.le_of_ble_eq_true rfl) de_M_plan_86 (fun H locs hP hD hS => ?_)
              have hP : va_P (dC, dI) CLS (wM ad T (sN t 0 0)) H := hP
              have hD : va_D A (wM ad T (sN t 0 0)) := hD
              refine lv_aload_n hx hb de_M_plan_89 rfl (lv_at hl 0 rfl) ?_
              refine va_get (D := (dC, dI)) (ci := 9) (v := .ref (ad 21)) (C := "StabilitySumsModel") (T := TB_M) (N := 33) hx hb hts ui_M hown hK hP 0 rfl rfl 28 (by decide) (hts _ uw_724) (fun _ h9 => h9) rfl de_M_plan_90 ?_
              refine lv_aload_n hx hb de_M_plan_93 rfl (lv_at hl 0 rfl) ?_
              refine va_get (D := (dC, dI)) (ci := 9) (v := .int (nI (t.2.2.2 5))) (C := "StabilitySumsModel") (T := TB_M) (N := 33) hx hb hts ui_M hown hK hP 0 rfl rfl 27 (by decide) (hts _ uw_723) (fun _ h9 => h9) rfl de_M_plan_94 ?_
              refine lv_iload_n hx hb de_M_plan_97 rfl (lv_at hl 1 rfl) ?_
              refine rw_zast (f := t.2.1 1) (j := (t.2.2.2 5)) (x := a0) hx hb hK hP hD hS 21 2 rfl rfl (by omega) (by decide) de_M_plan_98 (fun H locs hP hD hS => ?_)
              have hP : va_P (dC, dI) CLS (wM ad T (sI (sN t 0 0) 1 (t.2.2.2 5) (vp_nar .boolean a0))) H := hP
              have hD : va_D A (wM ad T (sI (sN t 0 0) 1 (t.2.2.2 5) (vp_nar .boolean a0))) := hD
              refine lv_aload_n hx hb de_M_plan_99 rfl (lv_at hl 0 rfl) ?_
              refine va_get (D := (dC, dI)) (ci := 9) (v := .ref (ad 22)) (C := "StabilitySumsModel") (T := TB_M) (N := 33) hx hb hts ui_M hown hK hP 0 rfl rfl 29 (by decide) (hts _ uw_725) (fun _ h9 => h9) rfl de_M_plan_100 ?_
              refine lv_aload_n hx hb de_M_plan_103 rfl (lv_at hl 0 rfl) ?_
              refine va_get (D := (dC, dI)) (ci := 9) (v := .int (nI (t.2.2.2 5))) (C := "StabilitySumsModel") (T := TB_M) (N := 33) hx hb hts ui_M hown hK hP 0 rfl rfl 27 (by decide) (hts _ uw_723) (fun _ h9 => h9) rfl de_M_plan_104 ?_
              refine lv_iload_n hx hb de_M_plan_107 rfl (lv_at hl 2 rfl) ?_
              refine rw_iast (f := t.2.1 2) (j := (t.2.2.2 5)) (x := a1) hx hb hK hP hD hS 22 1 rfl rfl (by omega) (by decide) de_M_plan_108 (fun H locs hP hD hS => ?_)
              have hP : va_P (dC, dI) CLS (wM ad T (sI (sI (sN t 0 0) 1 (t.2.2.2 5) (vp_nar .boolean a0)) 2 (t.2.2.2 5) a1)) H := hP
              have hD : va_D A (wM ad T (sI (sI (sN t 0 0) 1 (t.2.2.2 5) (vp_nar .boolean a0)) 2 (t.2.2.2 5) a1)) := hD
              refine lv_aload_n hx hb de_M_plan_109 rfl (lv_at hl 0 rfl) ?_
              refine va_get (D := (dC, dI)) (ci := 9) (v := .ref (ad 23)) (C := "StabilitySumsModel") (T := TB_M) (N := 33) hx hb hts ui_M hown hK hP 0 rfl rfl 30 (by decide) (hts _ uw_726) (fun _ h9 => h9) rfl de_M_plan_110 ?_
              refine lv_aload_n hx hb de_M_plan_113 rfl (lv_at hl 0 rfl) ?_
              refine va_get (D := (dC, dI)) (ci := 9) (v := .int (nI (t.2.2.2 5))) (C := "StabilitySumsModel") (T := TB_M) (N := 33) hx hb hts ui_M hown hK hP 0 rfl rfl 27 (by decide) (hts _ uw_723) (fun _ h9 => h9) rfl de_M_plan_114 ?_
              refine lv_lload_n hx hb de_M_plan_117 rfl (lv_at hl 3 rfl) ?_
              refine rw_last (f := t.1 19) (j := (t.2.2.2 5)) (x := a2) hx hb hK hP hD hS 23 0 rfl rfl (by omega) (by decide) de_M_plan_118 (fun H locs hP hD hS => ?_)
              have hP : va_P (dC, dI) CLS (wM ad T (sL (sI (sI (sN t 0 0) 1 (t.2.2.2 5) (vp_nar .boolean a0)) 2 (t.2.2.2 5) a1) 19 (t.2.2.2 5) a2)) H := hP
              have hD : va_D A (wM ad T (sL (sI (sI (sN t 0 0) 1 (t.2.2.2 5) (vp_nar .boolean a0)) 2 (t.2.2.2 5) a1) 19 (t.2.2.2 5) a2)) := hD
              refine lv_aload_n hx hb de_M_plan_119 rfl (lv_at hl 0 rfl) ?_
              refine lv_dup hx hb de_M_plan_120 rfl ?_
              refine va_get (D := (dC, dI)) (ci := 9) (v := .int (nI (t.2.2.2 5))) (C := "StabilitySumsModel") (T := TB_M) (N := 33) hx hb hts ui_M hown hK hP 0 rfl rfl 27 (by decide) (hts _ uw_723) (fun _ h9 => h9) rfl de_M_plan_121 ?_
              refine lv_iconst (v := 1) hx hb de_M_plan_124 (by decide) ?_
              refine lv_iadd hx hb de_M_plan_125 ?_
              refine lv_topi (fun v_10 ev_10 => ?_)
              have ev_10 : v_10 = (nI ((t.2.2.2 5) + 1)) := ev_10.trans (nI_add (t.2.2.2 5) 1)
              subst ev_10
              refine va_put (D := (dC, dI)) (ci := 9) (v := .int (nI ((t.2.2.2 5) + 1))) (ty := .int) (C := "StabilitySumsModel") (T := TB_M) (N := 33) hx hb hts ui_M tt_M tk_M nm_M hown hK hP hD hS 0 rfl rfl 27 (by decide) (hts _ uw_723) (fun _ h9 => h9) rfl (by decide +kernel) rfl rfl (Nat.le_of_ble_eq_true rfl) de_M_plan_126 (fun H locs hP hD hS => ?_)
              have hP : va_P (dC, dI) CLS (wM ad T (sN (sL (sI (sI (sN t 0 0) 1 (t.2.2.2 5) (vp_nar .boolean a0)) 2 (t.2.2.2 5) a1) 19 (t.2.2.2 5) a2) 5 ((t.2.2.2 5) + 1))) H := hP
              have hD : va_D A (wM ad T (sN (sL (sI (sI (sN t 0 0) 1 (t.2.2.2 5) (vp_nar .boolean a0)) 2 (t.2.2.2 5) a1) 19 (t.2.2.2 5) a2) 5 ((t.2.2.2 5) + 1))) := hD
              refine lv_aload_n hx hb de_M_plan_129 rfl (lv_at hl 0 rfl) ?_
              refine va_get (D := (dC, dI)) (ci := 9) (v := .int (nI ((t.2.2.2 5) + 1))) (C := "StabilitySumsModel") (T := TB_M) (N := 33) hx hb hts ui_M hown hK hP 0 rfl rfl 27 (by decide) (hts _ uw_723) (fun _ h9 => h9) rfl de_M_plan_130 ?_
              refine lv_iconst (v := 1) hx hb de_M_plan_133 (by decide) ?_
              refine lv_isub hx hb de_M_plan_134 ?_
              refine lv_topi (fun v_11 ev_11 => ?_)
              have ev_11 : v_11 = (nI (((t.2.2.2 5) + 1) - 1)) := ev_11.trans (pk_sub (a := (t.2.2.2 5) + 1) (b := 1) (by omega))
              subst ev_11
              have hfin : (sN (sL (sI (sI (sN t 0 0) 1 (t.2.2.2 5) (vp_nar .boolean a0)) 2 (t.2.2.2 5) a1) 19 (t.2.2.2 5) a2) 5 ((t.2.2.2 5) + 1)) = y_pl3 a0 a1 a2 t (sN t 0 1) (sN t 0 2) (sN t 0 3) (yp a0 a1 a2 t) := by
                unfold y_pl3; rw [if_neg c_1, if_pos c_4, if_pos c_5, if_pos c_8, if_neg c_9]; first | done | assumption | rfl
              rw [hfin] at hP hD
              subst hQ
              have hpost : ((nI (((t.2.2.2 5) + 1) - 1)) : Int32) = y_pl3 a0 a1 a2 t 0 0 0 (nI (t.2.2.2 5)) := by
                unfold y_pl3; rw [if_neg c_1, if_pos c_4, if_pos c_5, if_pos c_8, if_neg c_9]; first | done | assumption | rfl
              exact W.iret (v := (nI (((t.2.2.2 5) + 1) - 1))) hx hb hr (fun t9 ht hW => ⟨⟨(nI (((t.2.2.2 5) + 1) - 1)), (), rfl, hpost, by rw [ht]; exact hP, va_K.moved hW.alike hK, hD⟩, hS.F ht⟩) hS.2.2 de_M_plan_135
            · skip
              have c_9 : (t.2.2.2 5) = 20 := (nI_eq (a := t.2.2.2 5) (b := 20) (by omega) (by omega)).mp c_9
              refine lv_aload_n hx hb de_M_plan_78 rfl (lv_at hl 0 rfl) ?_
              refine lv_iconst (v := 3) hx hb de_M_plan_79 (by decide) ?_
              refine cl_Vi (As := [.int 3]) (rest := []) ⟨hx, hb, hml, hown, hts⟩ (mt_M_fails l dC dI ad T t 3) (cwV 1 hts (uw_V uw_845 uw_847 uw_18 uw_36 uw_848) rfl rfl rfl (by decide +kernel) ⟨Nat.le_of_ble_eq_true rfl, Nat.le_of_ble_eq_true rfl⟩) (va_recv hK hP (ci := 9) (q0 := 0) rfl rfl) rfl hl.1 rfl (Nat.le_of_ble_eq_true rfl) de_M_plan_80 ⟨Nat.zero_le _, Nat.zero_le _⟩ hK hN hP hD hS hA (fun r_12 _ H locs hw_12 hP hD hS => ?_)
              have hw_12 : r_12 = 0 := hw_12
              obtain ⟨t_13, et_13⟩ : ∃ z, z = sN t 0 3 := ⟨_, rfl⟩
              have hP : va_P (dC, dI) CLS (wM ad T t_13) H := by rw [et_13]; exact hP
              have hD : va_D A (wM ad T t_13) := by rw [et_13]; exact hD
              have hfin : t_13 = y_pl3 a0 a1 a2 t (sN t 0 1) (sN t 0 2) (sN t 0 3) (yp a0 a1 a2 t) := by
                unfold y_pl3; rw [if_neg c_1, if_pos c_4, if_pos c_5, if_pos c_8, if_pos c_9]; first | done | assumption | rfl
              rw [hfin] at hP hD
              subst hQ
              have hpost : (r_12 : Int32) = y_pl3 a0 a1 a2 t 0 0 0 (nI (t.2.2.2 5)) := by
                unfold y_pl3; rw [if_neg c_1, if_pos c_4, if_pos c_5, if_pos c_8, if_pos c_9]; first | done | assumption | rfl
              exact W.iret (v := r_12) hx hb hr (fun t9 ht hW => ⟨⟨r_12, (), rfl, hpost, by rw [ht]; exact hP, va_K.moved hW.alike hK, hD⟩, hS.F ht⟩) hS.2.2 de_M_plan_83
          · skip
            have c_8 := bz_f hw_7 c_8
            refine lv_aload_n hx hb de_M_plan_63 rfl (lv_at hl 0 rfl) ?_
            refine lv_iconst (v := 2) hx hb de_M_plan_64 (by decide) ?_
            refine cl_Vi (As := [.int 2]) (rest := []) ⟨hx, hb, hml, hown, hts⟩ (mt_M_fails l dC dI ad T t 2) (cwV 1 hts (uw_V uw_845 uw_847 uw_18 uw_36 uw_848) rfl rfl rfl (by decide +kernel) ⟨Nat.le_of_ble_eq_true rfl, Nat.le_of_ble_eq_true rfl⟩) (va_recv hK hP (ci := 9) (q0 := 0) rfl rfl) rfl hl.1 rfl (Nat.le_of_ble_eq_true rfl) de_M_plan_65 ⟨Nat.zero_le _, Nat.zero_le _⟩ hK hN hP hD hS hA (fun r_14 _ H locs hw_14 hP hD hS => ?_)
            have hw_14 : r_14 = 0 := hw_14
            obtain ⟨t_15, et_15⟩ : ∃ z, z = sN t 0 2 := ⟨_, rfl⟩
            have hP : va_P (dC, dI) CLS (wM ad T t_15) H := by rw [et_15]; exact hP
            have hD : va_D A (wM ad T t_15) := by rw [et_15]; exact hD
            have hfin : t_15 = y_pl3 a0 a1 a2 t (sN t 0 1) (sN t 0 2) (sN t 0 3) (yp a0 a1 a2 t) := by
              unfold y_pl3; rw [if_neg c_1, if_pos c_4, if_pos c_5, if_neg c_8]; first | done | assumption | rfl
            rw [hfin] at hP hD
            subst hQ
            have hpost : (r_14 : Int32) = y_pl3 a0 a1 a2 t 0 0 0 (nI (t.2.2.2 5)) := by
              unfold y_pl3; rw [if_neg c_1, if_pos c_4, if_pos c_5, if_neg c_8]; first | done | assumption | rfl
            exact W.iret (v := r_14) hx hb hr (fun t9 ht hW => ⟨⟨r_14, (), rfl, hpost, by rw [ht]; exact hP, va_K.moved hW.alike hK, hD⟩, hS.F ht⟩) hS.2.2 de_M_plan_68
        · skip
          refine lv_lload_n hx hb de_M_plan_33 rfl (lv_at hl 3 rfl) ?_
          refine lv_lconst (v := 0) hx hb de_M_plan_34 (by decide) ?_
          refine lv_aload_n hx hb de_M_plan_35 rfl (lv_at hl 0 rfl) ?_
          refine va_get (D := (dC, dI)) (ci := 9) (v := .ref (ad 5)) (C := "StabilitySumsModel") (T := TB_M) (N := 33) hx hb hts ui_M hown hK hP 0 rfl rfl 7 (by decide) (hts _ uw_703) (fun _ h9 => h9) rfl de_M_plan_36 ?_
          refine lv_iload_n hx hb de_M_plan_39 rfl (lv_at hl 2 rfl) ?_
          have hix_40 : a1 = nI a1.toNatClampNeg := cl_eq c_1
          refine rx_lald (f := t.1 4) (j := a1.toNatClampNeg) hx hb hK hP 5 0 rfl rfl (by first | exact (Nat.lt_of_lt_of_le (cl_lt c_1 (Int32.not_le.mpr c_5) (by omega)) (by omega)) | (exfalso; first | exact absurd c_4 c_6 | exact absurd c_6 c_4)) (by decide) de_M_plan_40 hix_40 ?_
          refine cl_Si (As := [.long a2, .long 0, .long (t.1 4 a1.toNatClampNeg)]) (rest := []) ⟨hx, hb, hml, hown, hts⟩ (mt_M_in l dC dI ad T t a2 0 (t.1 4 a1.toNatClampNeg)) (va_cwS 3 hts (uw_S uw_842 uw_843 uw_36 uw_844) rfl rfl rfl (by decide +kernel) ⟨Nat.le_of_ble_eq_true rfl, Nat.le_of_ble_eq_true rfl⟩) rfl hl.1 rfl (Nat.le_of_ble_eq_true rfl) de_M_plan_41 ⟨Nat.zero_le _, Nat.zero_le _⟩ hK hN hP hD hS hA (fun r_16 _ H locs hw_16 hP hD hS => ?_)
          have hw_16 : bz r_16 (x_in a2 0 (t.1 4 a1.toNatClampNeg)) := hw_16
          refine lv_if_ne (tgt := 69) hx hb de_M_plan_44 (by decide) (fun c_17 => ?_) (fun c_17 => ?_)
          · skip
            have c_17 := bz_t hw_16 c_17
            refine lv_aload_n hx hb de_M_plan_69 rfl (lv_at hl 0 rfl) ?_
            refine va_get (D := (dC, dI)) (ci := 9) (v := .int (nI (t.2.2.2 5))) (C := "StabilitySumsModel") (T := TB_M) (N := 33) hx hb hts ui_M hown hK hP 0 rfl rfl 27 (by decide) (hts _ uw_723) (fun _ h9 => h9) rfl de_M_plan_70 ?_
            refine lv_bipush (v := 20) hx hb de_M_plan_73 (by decide) ?_
            refine lv_icmp_ne (tgt := 84) hx hb de_M_plan_75 (by decide) (fun c_18 => ?_) (fun c_18 => ?_)
            · skip
              have c_18 : ¬ ((t.2.2.2 5) = 20) := fun z => c_18 ((nI_eq (a := t.2.2.2 5) (b := 20) (by omega) (by omega)).mpr z)
              refine lv_aload_n hx hb de_M_plan_84 rfl (lv_at hl 0 rfl) ?_
              refine lv_iconst (v := 0) hx hb de_M_plan_85 (by decide) ?_
              refine va_put (D := (dC, dI)) (ci := 9) (v := .int 0) (ty := .int) (C := "StabilitySumsModel") (T := TB_M) (N := 33) hx hb hts ui_M tt_M tk_M nm_M hown hK hP hD hS 0 rfl rfl 0 (by decide) (hts _ uw_696) (fun _ h9 => h9) rfl (by decide +kernel) rfl rfl (Nat.le_of_ble_eq_true rfl) de_M_plan_86 (fun H locs hP hD hS => ?_)
              have hP : va_P (dC, dI) CLS (wM ad T (sN t 0 0)) H := hP
              have hD : va_D A (wM ad T (sN t 0 0)) := hD
              refine lv_aload_n hx hb de_M_plan_89 rfl (lv_at hl 0 rfl) ?_
              refine va_get (D := (dC, dI)) (ci := 9) (v := .ref (ad 21)) (C := "StabilitySumsModel") (T := TB_M) (N := 33) hx hb hts ui_M hown hK hP 0 rfl rfl 28 (by decide) (hts _ uw_724) (fun _ h9 => h9) rfl de_M_plan_90 ?_
              refine lv_aload_n hx hb de_M_plan_93 rfl (lv_at hl 0 rfl) ?_
              refine va_get (D := (dC, dI)) (ci := 9) (v := .int (nI (t.2.2.2 5))) (C := "StabilitySumsModel") (T := TB_M) (N := 33) hx hb hts ui_M hown hK hP 0 rfl rfl 27 (by decide) (hts _ uw_723) (fun _ h9 => h9) rfl de_M_plan_94 ?_
              refine lv_iload_n hx hb de_M_plan_97 rfl (lv_at hl 1 rfl) ?_
              refine rw_zast (f := t.2.1 1) (j := (t.2.2.2 5)) (x := a0) hx hb hK hP hD hS 21 2 rfl rfl (by omega) (by decide) de_M_plan_98 (fun H locs hP hD hS => ?_)
              have hP : va_P (dC, dI) CLS (wM ad T (sI (sN t 0 0) 1 (t.2.2.2 5) (vp_nar .boolean a0))) H := hP
              have hD : va_D A (wM ad T (sI (sN t 0 0) 1 (t.2.2.2 5) (vp_nar .boolean a0))) := hD
              refine lv_aload_n hx hb de_M_plan_99 rfl (lv_at hl 0 rfl) ?_
              refine va_get (D := (dC, dI)) (ci := 9) (v := .ref (ad 22)) (C := "StabilitySumsModel") (T := TB_M) (N := 33) hx hb hts ui_M hown hK hP 0 rfl rfl 29 (by decide) (hts _ uw_725) (fun _ h9 => h9) rfl de_M_plan_100 ?_
              refine lv_aload_n hx hb de_M_plan_103 rfl (lv_at hl 0 rfl) ?_
              refine va_get (D := (dC, dI)) (ci := 9) (v := .int (nI (t.2.2.2 5))) (C := "StabilitySumsModel") (T := TB_M) (N := 33) hx hb hts ui_M hown hK hP 0 rfl rfl 27 (by decide) (hts _ uw_723) (fun _ h9 => h9) rfl de_M_plan_104 ?_
              refine lv_iload_n hx hb de_M_plan_107 rfl (lv_at hl 2 rfl) ?_
              refine rw_iast (f := t.2.1 2) (j := (t.2.2.2 5)) (x := a1) hx hb hK hP hD hS 22 1 rfl rfl (by omega) (by decide) de_M_plan_108 (fun H locs hP hD hS => ?_)
              have hP : va_P (dC, dI) CLS (wM ad T (sI (sI (sN t 0 0) 1 (t.2.2.2 5) (vp_nar .boolean a0)) 2 (t.2.2.2 5) a1)) H := hP
              have hD : va_D A (wM ad T (sI (sI (sN t 0 0) 1 (t.2.2.2 5) (vp_nar .boolean a0)) 2 (t.2.2.2 5) a1)) := hD
              refine lv_aload_n hx hb de_M_plan_109 rfl (lv_at hl 0 rfl) ?_
              refine va_get (D := (dC, dI)) (ci := 9) (v := .ref (ad 23)) (C := "StabilitySumsModel") (T := TB_M) (N := 33) hx hb hts ui_M hown hK hP 0 rfl rfl 30 (by decide) (hts _ uw_726) (fun _ h9 => h9) rfl de_M_plan_110 ?_
              refine lv_aload_n hx hb de_M_plan_113 rfl (lv_at hl 0 rfl) ?_
              refine va_get (D := (dC, dI)) (ci := 9) (v := .int (nI (t.2.2.2 5))) (C := "StabilitySumsModel") (T := TB_M) (N := 33) hx hb hts ui_M hown hK hP 0 rfl rfl 27 (by decide) (hts _ uw_723) (fun _ h9 => h9) rfl de_M_plan_114 ?_
              refine lv_lload_n hx hb de_M_plan_117 rfl (lv_at hl 3 rfl) ?_
              refine rw_last (f := t.1 19) (j := (t.2.2.2 5)) (x := a2) hx hb hK hP hD hS 23 0 rfl rfl (by omega) (by decide) de_M_plan_118 (fun H locs hP hD hS => ?_)
              have hP : va_P (dC, dI) CLS (wM ad T (sL (sI (sI (sN t 0 0) 1 (t.2.2.2 5) (vp_nar .boolean a0)) 2 (t.2.2.2 5) a1) 19 (t.2.2.2 5) a2)) H := hP
              have hD : va_D A (wM ad T (sL (sI (sI (sN t 0 0) 1 (t.2.2.2 5) (vp_nar .boolean a0)) 2 (t.2.2.2 5) a1) 19 (t.2.2.2 5) a2)) := hD
              refine lv_aload_n hx hb de_M_plan_119 rfl (lv_at hl 0 rfl) ?_
              refine lv_dup hx hb de_M_plan_120 rfl ?_
              refine va_get (D := (dC, dI)) (ci := 9) (v := .int (nI (t.2.2.2 5))) (C := "StabilitySumsModel") (T := TB_M) (N := 33) hx hb hts ui_M hown hK hP 0 rfl rfl 27 (by decide) (hts _ uw_723) (fun _ h9 => h9) rfl de_M_plan_121 ?_
              refine lv_iconst (v := 1) hx hb de_M_plan_124 (by decide) ?_
              refine lv_iadd hx hb de_M_plan_125 ?_
              refine lv_topi (fun v_19 ev_19 => ?_)
              have ev_19 : v_19 = (nI ((t.2.2.2 5) + 1)) := ev_19.trans (nI_add (t.2.2.2 5) 1)
              subst ev_19
              refine va_put (D := (dC, dI)) (ci := 9) (v := .int (nI ((t.2.2.2 5) + 1))) (ty := .int) (C := "StabilitySumsModel") (T := TB_M) (N := 33) hx hb hts ui_M tt_M tk_M nm_M hown hK hP hD hS 0 rfl rfl 27 (by decide) (hts _ uw_723) (fun _ h9 => h9) rfl (by decide +kernel) rfl rfl (Nat.le_of_ble_eq_true rfl) de_M_plan_126 (fun H locs hP hD hS => ?_)
              have hP : va_P (dC, dI) CLS (wM ad T (sN (sL (sI (sI (sN t 0 0) 1 (t.2.2.2 5) (vp_nar .boolean a0)) 2 (t.2.2.2 5) a1) 19 (t.2.2.2 5) a2) 5 ((t.2.2.2 5) + 1))) H := hP
              have hD : va_D A (wM ad T (sN (sL (sI (sI (sN t 0 0) 1 (t.2.2.2 5) (vp_nar .boolean a0)) 2 (t.2.2.2 5) a1) 19 (t.2.2.2 5) a2) 5 ((t.2.2.2 5) + 1))) := hD
              refine lv_aload_n hx hb de_M_plan_129 rfl (lv_at hl 0 rfl) ?_
              refine va_get (D := (dC, dI)) (ci := 9) (v := .int (nI ((t.2.2.2 5) + 1))) (C := "StabilitySumsModel") (T := TB_M) (N := 33) hx hb hts ui_M hown hK hP 0 rfl rfl 27 (by decide) (hts _ uw_723) (fun _ h9 => h9) rfl de_M_plan_130 ?_
              refine lv_iconst (v := 1) hx hb de_M_plan_133 (by decide) ?_
              refine lv_isub hx hb de_M_plan_134 ?_
              refine lv_topi (fun v_20 ev_20 => ?_)
              have ev_20 : v_20 = (nI (((t.2.2.2 5) + 1) - 1)) := ev_20.trans (pk_sub (a := (t.2.2.2 5) + 1) (b := 1) (by omega))
              subst ev_20
              have hfin : (sN (sL (sI (sI (sN t 0 0) 1 (t.2.2.2 5) (vp_nar .boolean a0)) 2 (t.2.2.2 5) a1) 19 (t.2.2.2 5) a2) 5 ((t.2.2.2 5) + 1)) = y_pl3 a0 a1 a2 t (sN t 0 1) (sN t 0 2) (sN t 0 3) (yp a0 a1 a2 t) := by
                first | exact absurd c_4 c_6 | exact absurd c_6 c_4
              rw [hfin] at hP hD
              subst hQ
              have hpost : ((nI (((t.2.2.2 5) + 1) - 1)) : Int32) = y_pl3 a0 a1 a2 t 0 0 0 (nI (t.2.2.2 5)) := by
                first | exact absurd c_4 c_6 | exact absurd c_6 c_4
              exact W.iret (v := (nI (((t.2.2.2 5) + 1) - 1))) hx hb hr (fun t9 ht hW => ⟨⟨(nI (((t.2.2.2 5) + 1) - 1)), (), rfl, hpost, by rw [ht]; exact hP, va_K.moved hW.alike hK, hD⟩, hS.F ht⟩) hS.2.2 de_M_plan_135
            · skip
              have c_18 : (t.2.2.2 5) = 20 := (nI_eq (a := t.2.2.2 5) (b := 20) (by omega) (by omega)).mp c_18
              refine lv_aload_n hx hb de_M_plan_78 rfl (lv_at hl 0 rfl) ?_
              refine lv_iconst (v := 3) hx hb de_M_plan_79 (by decide) ?_
              refine cl_Vi (As := [.int 3]) (rest := []) ⟨hx, hb, hml, hown, hts⟩ (mt_M_fails l dC dI ad T t 3) (cwV 1 hts (uw_V uw_845 uw_847 uw_18 uw_36 uw_848) rfl rfl rfl (by decide +kernel) ⟨Nat.le_of_ble_eq_true rfl, Nat.le_of_ble_eq_true rfl⟩) (va_recv hK hP (ci := 9) (q0 := 0) rfl rfl) rfl hl.1 rfl (Nat.le_of_ble_eq_true rfl) de_M_plan_80 ⟨Nat.zero_le _, Nat.zero_le _⟩ hK hN hP hD hS hA (fun r_21 _ H locs hw_21 hP hD hS => ?_)
              have hw_21 : r_21 = 0 := hw_21
              obtain ⟨t_22, et_22⟩ : ∃ z, z = sN t 0 3 := ⟨_, rfl⟩
              have hP : va_P (dC, dI) CLS (wM ad T t_22) H := by rw [et_22]; exact hP
              have hD : va_D A (wM ad T t_22) := by rw [et_22]; exact hD
              have hfin : t_22 = y_pl3 a0 a1 a2 t (sN t 0 1) (sN t 0 2) (sN t 0 3) (yp a0 a1 a2 t) := by
                first | exact absurd c_4 c_6 | exact absurd c_6 c_4
              rw [hfin] at hP hD
              subst hQ
              have hpost : (r_21 : Int32) = y_pl3 a0 a1 a2 t 0 0 0 (nI (t.2.2.2 5)) := by
                first | exact absurd c_4 c_6 | exact absurd c_6 c_4
              exact W.iret (v := r_21) hx hb hr (fun t9 ht hW => ⟨⟨r_21, (), rfl, hpost, by rw [ht]; exact hP, va_K.moved hW.alike hK, hD⟩, hS.F ht⟩) hS.2.2 de_M_plan_83
          · skip
            have c_17 := bz_f hw_16 c_17
            refine lv_goto (tgt := 63) hx hb de_M_plan_47 (by decide) ?_
            refine lv_aload_n hx hb de_M_plan_63 rfl (lv_at hl 0 rfl) ?_
            refine lv_iconst (v := 2) hx hb de_M_plan_64 (by decide) ?_
            refine cl_Vi (As := [.int 2]) (rest := []) ⟨hx, hb, hml, hown, hts⟩ (mt_M_fails l dC dI ad T t 2) (cwV 1 hts (uw_V uw_845 uw_847 uw_18 uw_36 uw_848) rfl rfl rfl (by decide +kernel) ⟨Nat.le_of_ble_eq_true rfl, Nat.le_of_ble_eq_true rfl⟩) (va_recv hK hP (ci := 9) (q0 := 0) rfl rfl) rfl hl.1 rfl (Nat.le_of_ble_eq_true rfl) de_M_plan_65 ⟨Nat.zero_le _, Nat.zero_le _⟩ hK hN hP hD hS hA (fun r_23 _ H locs hw_23 hP hD hS => ?_)
            have hw_23 : r_23 = 0 := hw_23
            obtain ⟨t_24, et_24⟩ : ∃ z, z = sN t 0 2 := ⟨_, rfl⟩
            have hP : va_P (dC, dI) CLS (wM ad T t_24) H := by rw [et_24]; exact hP
            have hD : va_D A (wM ad T t_24) := by rw [et_24]; exact hD
            have hfin : t_24 = y_pl3 a0 a1 a2 t (sN t 0 1) (sN t 0 2) (sN t 0 3) (yp a0 a1 a2 t) := by
              first | exact absurd c_4 c_6 | exact absurd c_6 c_4
            rw [hfin] at hP hD
            subst hQ
            have hpost : (r_23 : Int32) = y_pl3 a0 a1 a2 t 0 0 0 (nI (t.2.2.2 5)) := by
              first | exact absurd c_4 c_6 | exact absurd c_6 c_4
            exact W.iret (v := r_23) hx hb hr (fun t9 ht hW => ⟨⟨r_23, (), rfl, hpost, by rw [ht]; exact hP, va_K.moved hW.alike hK, hD⟩, hS.F ht⟩) hS.2.2 de_M_plan_68
      · skip
        refine lv_aload_n hx hb de_M_plan_23 rfl (lv_at hl 0 rfl) ?_
        refine lv_iconst (v := 1) hx hb de_M_plan_24 (by decide) ?_
        refine cl_Vi (As := [.int 1]) (rest := []) ⟨hx, hb, hml, hown, hts⟩ (mt_M_fails l dC dI ad T t 1) (cwV 1 hts (uw_V uw_845 uw_847 uw_18 uw_36 uw_848) rfl rfl rfl (by decide +kernel) ⟨Nat.le_of_ble_eq_true rfl, Nat.le_of_ble_eq_true rfl⟩) (va_recv hK hP (ci := 9) (q0 := 0) rfl rfl) rfl hl.1 rfl (Nat.le_of_ble_eq_true rfl) de_M_plan_25 ⟨Nat.zero_le _, Nat.zero_le _⟩ hK hN hP hD hS hA (fun r_25 _ H locs hw_25 hP hD hS => ?_)
        have hw_25 : r_25 = 0 := hw_25
        obtain ⟨t_26, et_26⟩ : ∃ z, z = sN t 0 1 := ⟨_, rfl⟩
        have hP : va_P (dC, dI) CLS (wM ad T t_26) H := by rw [et_26]; exact hP
        have hD : va_D A (wM ad T t_26) := by rw [et_26]; exact hD
        have hfin : t_26 = y_pl3 a0 a1 a2 t (sN t 0 1) (sN t 0 2) (sN t 0 3) (yp a0 a1 a2 t) := by
          unfold y_pl3; rw [if_neg c_1, if_pos c_4, if_neg c_5]; first | done | assumption
        rw [hfin] at hP hD
        subst hQ
        have hpost : (r_25 : Int32) = y_pl3 a0 a1 a2 t 0 0 0 (nI (t.2.2.2 5)) := by
          unfold y_pl3; rw [if_neg c_1, if_pos c_4, if_neg c_5]; first | done | assumption
        exact W.iret (v := r_25) hx hb hr (fun t9 ht hW => ⟨⟨r_25, (), rfl, hpost, by rw [ht]; exact hP, va_K.moved hW.alike hK, hD⟩, hS.F ht⟩) hS.2.2 de_M_plan_28
    · skip
      refine lv_aload_n hx hb de_M_plan_9 rfl (lv_at hl 0 rfl) ?_
      refine va_get (D := (dC, dI)) (ci := 9) (v := .int (nI (t.2.2.2 2))) (C := "StabilitySumsModel") (T := TB_M) (N := 33) hx hb hts ui_M hown hK hP 0 rfl rfl 6 (by decide) (hts _ uw_702) (fun _ h9 => h9) rfl de_M_plan_10 ?_
      refine lv_goto (tgt := 20) hx hb de_M_plan_13 (by decide) ?_
      refine lv_icmp_lt (tgt := 29) hx hb de_M_plan_20 (by decide) (fun c_27 => ?_) (fun c_27 => ?_)
      · skip
        refine lv_iload_n hx hb de_M_plan_29 rfl (lv_at hl 1 rfl) ?_
        refine lv_if_eq (tgt := 50) hx hb de_M_plan_30 (by decide) (fun c_28 => ?_) (fun c_28 => ?_)
        · skip
          refine lv_lload_n hx hb de_M_plan_50 rfl (lv_at hl 3 rfl) ?_
          refine lv_ldc2 (v := (-100000)) hx hb hown (hts _ uw_865) de_M_plan_51 ?_
          refine lv_ldc2 (v := 100000) hx hb hown (hts _ uw_866) de_M_plan_54 ?_
          refine cl_Si (As := [.long a2, .long (-100000), .long 100000]) (rest := []) ⟨hx, hb, hml, hown, hts⟩ (mt_M_in l dC dI ad T t a2 (-100000) 100000) (va_cwS 3 hts (uw_S uw_842 uw_843 uw_36 uw_844) rfl rfl rfl (by decide +kernel) ⟨Nat.le_of_ble_eq_true rfl, Nat.le_of_ble_eq_true rfl⟩) rfl hl.1 rfl (Nat.le_of_ble_eq_true rfl) de_M_plan_57 ⟨Nat.zero_le _, Nat.zero_le _⟩ hK hN hP hD hS hA (fun r_29 _ H locs hw_29 hP hD hS => ?_)
          have hw_29 : bz r_29 (x_in a2 (-100000) 100000) := hw_29
          refine lv_if_ne (tgt := 69) hx hb de_M_plan_60 (by decide) (fun c_30 => ?_) (fun c_30 => ?_)
          · skip
            have c_30 := bz_t hw_29 c_30
            refine lv_aload_n hx hb de_M_plan_69 rfl (lv_at hl 0 rfl) ?_
            refine va_get (D := (dC, dI)) (ci := 9) (v := .int (nI (t.2.2.2 5))) (C := "StabilitySumsModel") (T := TB_M) (N := 33) hx hb hts ui_M hown hK hP 0 rfl rfl 27 (by decide) (hts _ uw_723) (fun _ h9 => h9) rfl de_M_plan_70 ?_
            refine lv_bipush (v := 20) hx hb de_M_plan_73 (by decide) ?_
            refine lv_icmp_ne (tgt := 84) hx hb de_M_plan_75 (by decide) (fun c_31 => ?_) (fun c_31 => ?_)
            · skip
              have c_31 : ¬ ((t.2.2.2 5) = 20) := fun z => c_31 ((nI_eq (a := t.2.2.2 5) (b := 20) (by omega) (by omega)).mpr z)
              refine lv_aload_n hx hb de_M_plan_84 rfl (lv_at hl 0 rfl) ?_
              refine lv_iconst (v := 0) hx hb de_M_plan_85 (by decide) ?_
              refine va_put (D := (dC, dI)) (ci := 9) (v := .int 0) (ty := .int) (C := "StabilitySumsModel") (T := TB_M) (N := 33) hx hb hts ui_M tt_M tk_M nm_M hown hK hP hD hS 0 rfl rfl 0 (by decide) (hts _ uw_696) (fun _ h9 => h9) rfl (by decide +kernel) rfl rfl (Nat.le_of_ble_eq_true rfl) de_M_plan_86 (fun H locs hP hD hS => ?_)
              have hP : va_P (dC, dI) CLS (wM ad T (sN t 0 0)) H := hP
              have hD : va_D A (wM ad T (sN t 0 0)) := hD
              refine lv_aload_n hx hb de_M_plan_89 rfl (lv_at hl 0 rfl) ?_
              refine va_get (D := (dC, dI)) (ci := 9) (v := .ref (ad 21)) (C := "StabilitySumsModel") (T := TB_M) (N := 33) hx hb hts ui_M hown hK hP 0 rfl rfl 28 (by decide) (hts _ uw_724) (fun _ h9 => h9) rfl de_M_plan_90 ?_
              refine lv_aload_n hx hb de_M_plan_93 rfl (lv_at hl 0 rfl) ?_
              refine va_get (D := (dC, dI)) (ci := 9) (v := .int (nI (t.2.2.2 5))) (C := "StabilitySumsModel") (T := TB_M) (N := 33) hx hb hts ui_M hown hK hP 0 rfl rfl 27 (by decide) (hts _ uw_723) (fun _ h9 => h9) rfl de_M_plan_94 ?_
              refine lv_iload_n hx hb de_M_plan_97 rfl (lv_at hl 1 rfl) ?_
              refine rw_zast (f := t.2.1 1) (j := (t.2.2.2 5)) (x := a0) hx hb hK hP hD hS 21 2 rfl rfl (by omega) (by decide) de_M_plan_98 (fun H locs hP hD hS => ?_)
              have hP : va_P (dC, dI) CLS (wM ad T (sI (sN t 0 0) 1 (t.2.2.2 5) (vp_nar .boolean a0))) H := hP
              have hD : va_D A (wM ad T (sI (sN t 0 0) 1 (t.2.2.2 5) (vp_nar .boolean a0))) := hD
              refine lv_aload_n hx hb de_M_plan_99 rfl (lv_at hl 0 rfl) ?_
              refine va_get (D := (dC, dI)) (ci := 9) (v := .ref (ad 22)) (C := "StabilitySumsModel") (T := TB_M) (N := 33) hx hb hts ui_M hown hK hP 0 rfl rfl 29 (by decide) (hts _ uw_725) (fun _ h9 => h9) rfl de_M_plan_100 ?_
              refine lv_aload_n hx hb de_M_plan_103 rfl (lv_at hl 0 rfl) ?_
              refine va_get (D := (dC, dI)) (ci := 9) (v := .int (nI (t.2.2.2 5))) (C := "StabilitySumsModel") (T := TB_M) (N := 33) hx hb hts ui_M hown hK hP 0 rfl rfl 27 (by decide) (hts _ uw_723) (fun _ h9 => h9) rfl de_M_plan_104 ?_
              refine lv_iload_n hx hb de_M_plan_107 rfl (lv_at hl 2 rfl) ?_
              refine rw_iast (f := t.2.1 2) (j := (t.2.2.2 5)) (x := a1) hx hb hK hP hD hS 22 1 rfl rfl (by omega) (by decide) de_M_plan_108 (fun H locs hP hD hS => ?_)
              have hP : va_P (dC, dI) CLS (wM ad T (sI (sI (sN t 0 0) 1 (t.2.2.2 5) (vp_nar .boolean a0)) 2 (t.2.2.2 5) a1)) H := hP
              have hD : va_D A (wM ad T (sI (sI (sN t 0 0) 1 (t.2.2.2 5) (vp_nar .boolean a0)) 2 (t.2.2.2 5) a1)) := hD
              refine lv_aload_n hx hb de_M_plan_109 rfl (lv_at hl 0 rfl) ?_
              refine va_get (D := (dC, dI)) (ci := 9) (v := .ref (ad 23)) (C := "StabilitySumsModel") (T := TB_M) (N := 33) hx hb hts ui_M hown hK hP 0 rfl rfl 30 (by decide) (hts _ uw_726) (fun _ h9 => h9) rfl de_M_plan_110 ?_
              refine lv_aload_n hx hb de_M_plan_113 rfl (lv_at hl 0 rfl) ?_
              refine va_get (D := (dC, dI)) (ci := 9) (v := .int (nI (t.2.2.2 5))) (C := "StabilitySumsModel") (T := TB_M) (N := 33) hx hb hts ui_M hown hK hP 0 rfl rfl 27 (by decide) (hts _ uw_723) (fun _ h9 => h9) rfl de_M_plan_114 ?_
              refine lv_lload_n hx hb de_M_plan_117 rfl (lv_at hl 3 rfl) ?_
              refine rw_last (f := t.1 19) (j := (t.2.2.2 5)) (x := a2) hx hb hK hP hD hS 23 0 rfl rfl (by omega) (by decide) de_M_plan_118 (fun H locs hP hD hS => ?_)
              have hP : va_P (dC, dI) CLS (wM ad T (sL (sI (sI (sN t 0 0) 1 (t.2.2.2 5) (vp_nar .boolean a0)) 2 (t.2.2.2 5) a1) 19 (t.2.2.2 5) a2)) H := hP
              have hD : va_D A (wM ad T (sL (sI (sI (sN t 0 0) 1 (t.2.2.2 5) (vp_nar .boolean a0)) 2 (t.2.2.2 5) a1) 19 (t.2.2.2 5) a2)) := hD
              refine lv_aload_n hx hb de_M_plan_119 rfl (lv_at hl 0 rfl) ?_
              refine lv_dup hx hb de_M_plan_120 rfl ?_
              refine va_get (D := (dC, dI)) (ci := 9) (v := .int (nI (t.2.2.2 5))) (C := "StabilitySumsModel") (T := TB_M) (N := 33) hx hb hts ui_M hown hK hP 0 rfl rfl 27 (by decide) (hts _ uw_723) (fun _ h9 => h9) rfl de_M_plan_121 ?_
              refine lv_iconst (v := 1) hx hb de_M_plan_124 (by decide) ?_
              refine lv_iadd hx hb de_M_plan_125 ?_
              refine lv_topi (fun v_32 ev_32 => ?_)
              have ev_32 : v_32 = (nI ((t.2.2.2 5) + 1)) := ev_32.trans (nI_add (t.2.2.2 5) 1)
              subst ev_32
              refine va_put (D := (dC, dI)) (ci := 9) (v := .int (nI ((t.2.2.2 5) + 1))) (ty := .int) (C := "StabilitySumsModel") (T := TB_M) (N := 33) hx hb hts ui_M tt_M tk_M nm_M hown hK hP hD hS 0 rfl rfl 27 (by decide) (hts _ uw_723) (fun _ h9 => h9) rfl (by decide +kernel) rfl rfl (Nat.le_of_ble_eq_true rfl) de_M_plan_126 (fun H locs hP hD hS => ?_)
              have hP : va_P (dC, dI) CLS (wM ad T (sN (sL (sI (sI (sN t 0 0) 1 (t.2.2.2 5) (vp_nar .boolean a0)) 2 (t.2.2.2 5) a1) 19 (t.2.2.2 5) a2) 5 ((t.2.2.2 5) + 1))) H := hP
              have hD : va_D A (wM ad T (sN (sL (sI (sI (sN t 0 0) 1 (t.2.2.2 5) (vp_nar .boolean a0)) 2 (t.2.2.2 5) a1) 19 (t.2.2.2 5) a2) 5 ((t.2.2.2 5) + 1))) := hD
              refine lv_aload_n hx hb de_M_plan_129 rfl (lv_at hl 0 rfl) ?_
              refine va_get (D := (dC, dI)) (ci := 9) (v := .int (nI ((t.2.2.2 5) + 1))) (C := "StabilitySumsModel") (T := TB_M) (N := 33) hx hb hts ui_M hown hK hP 0 rfl rfl 27 (by decide) (hts _ uw_723) (fun _ h9 => h9) rfl de_M_plan_130 ?_
              refine lv_iconst (v := 1) hx hb de_M_plan_133 (by decide) ?_
              refine lv_isub hx hb de_M_plan_134 ?_
              refine lv_topi (fun v_33 ev_33 => ?_)
              have ev_33 : v_33 = (nI (((t.2.2.2 5) + 1) - 1)) := ev_33.trans (pk_sub (a := (t.2.2.2 5) + 1) (b := 1) (by omega))
              subst ev_33
              have hfin : (sN (sL (sI (sI (sN t 0 0) 1 (t.2.2.2 5) (vp_nar .boolean a0)) 2 (t.2.2.2 5) a1) 19 (t.2.2.2 5) a2) 5 ((t.2.2.2 5) + 1)) = y_pl3 a0 a1 a2 t (sN t 0 1) (sN t 0 2) (sN t 0 3) (yp a0 a1 a2 t) := by
                first | exact absurd c_4 c_28 | exact absurd c_28 c_4
              rw [hfin] at hP hD
              subst hQ
              have hpost : ((nI (((t.2.2.2 5) + 1) - 1)) : Int32) = y_pl3 a0 a1 a2 t 0 0 0 (nI (t.2.2.2 5)) := by
                first | exact absurd c_4 c_28 | exact absurd c_28 c_4
              exact W.iret (v := (nI (((t.2.2.2 5) + 1) - 1))) hx hb hr (fun t9 ht hW => ⟨⟨(nI (((t.2.2.2 5) + 1) - 1)), (), rfl, hpost, by rw [ht]; exact hP, va_K.moved hW.alike hK, hD⟩, hS.F ht⟩) hS.2.2 de_M_plan_135
            · skip
              have c_31 : (t.2.2.2 5) = 20 := (nI_eq (a := t.2.2.2 5) (b := 20) (by omega) (by omega)).mp c_31
              refine lv_aload_n hx hb de_M_plan_78 rfl (lv_at hl 0 rfl) ?_
              refine lv_iconst (v := 3) hx hb de_M_plan_79 (by decide) ?_
              refine cl_Vi (As := [.int 3]) (rest := []) ⟨hx, hb, hml, hown, hts⟩ (mt_M_fails l dC dI ad T t 3) (cwV 1 hts (uw_V uw_845 uw_847 uw_18 uw_36 uw_848) rfl rfl rfl (by decide +kernel) ⟨Nat.le_of_ble_eq_true rfl, Nat.le_of_ble_eq_true rfl⟩) (va_recv hK hP (ci := 9) (q0 := 0) rfl rfl) rfl hl.1 rfl (Nat.le_of_ble_eq_true rfl) de_M_plan_80 ⟨Nat.zero_le _, Nat.zero_le _⟩ hK hN hP hD hS hA (fun r_34 _ H locs hw_34 hP hD hS => ?_)
              have hw_34 : r_34 = 0 := hw_34
              obtain ⟨t_35, et_35⟩ : ∃ z, z = sN t 0 3 := ⟨_, rfl⟩
              have hP : va_P (dC, dI) CLS (wM ad T t_35) H := by rw [et_35]; exact hP
              have hD : va_D A (wM ad T t_35) := by rw [et_35]; exact hD
              have hfin : t_35 = y_pl3 a0 a1 a2 t (sN t 0 1) (sN t 0 2) (sN t 0 3) (yp a0 a1 a2 t) := by
                first | exact absurd c_4 c_28 | exact absurd c_28 c_4
              rw [hfin] at hP hD
              subst hQ
              have hpost : (r_34 : Int32) = y_pl3 a0 a1 a2 t 0 0 0 (nI (t.2.2.2 5)) := by
                first | exact absurd c_4 c_28 | exact absurd c_28 c_4
              exact W.iret (v := r_34) hx hb hr (fun t9 ht hW => ⟨⟨r_34, (), rfl, hpost, by rw [ht]; exact hP, va_K.moved hW.alike hK, hD⟩, hS.F ht⟩) hS.2.2 de_M_plan_83
          · skip
            have c_30 := bz_f hw_29 c_30
            refine lv_aload_n hx hb de_M_plan_63 rfl (lv_at hl 0 rfl) ?_
            refine lv_iconst (v := 2) hx hb de_M_plan_64 (by decide) ?_
            refine cl_Vi (As := [.int 2]) (rest := []) ⟨hx, hb, hml, hown, hts⟩ (mt_M_fails l dC dI ad T t 2) (cwV 1 hts (uw_V uw_845 uw_847 uw_18 uw_36 uw_848) rfl rfl rfl (by decide +kernel) ⟨Nat.le_of_ble_eq_true rfl, Nat.le_of_ble_eq_true rfl⟩) (va_recv hK hP (ci := 9) (q0 := 0) rfl rfl) rfl hl.1 rfl (Nat.le_of_ble_eq_true rfl) de_M_plan_65 ⟨Nat.zero_le _, Nat.zero_le _⟩ hK hN hP hD hS hA (fun r_36 _ H locs hw_36 hP hD hS => ?_)
            have hw_36 : r_36 = 0 := hw_36
            obtain ⟨t_37, et_37⟩ : ∃ z, z = sN t 0 2 := ⟨_, rfl⟩
            have hP : va_P (dC, dI) CLS (wM ad T t_37) H := by rw [et_37]; exact hP
            have hD : va_D A (wM ad T t_37) := by rw [et_37]; exact hD
            have hfin : t_37 = y_pl3 a0 a1 a2 t (sN t 0 1) (sN t 0 2) (sN t 0 3) (yp a0 a1 a2 t) := by
              first | exact absurd c_4 c_28 | exact absurd c_28 c_4
            rw [hfin] at hP hD
            subst hQ
            have hpost : (r_36 : Int32) = y_pl3 a0 a1 a2 t 0 0 0 (nI (t.2.2.2 5)) := by
              first | exact absurd c_4 c_28 | exact absurd c_28 c_4
            exact W.iret (v := r_36) hx hb hr (fun t9 ht hW => ⟨⟨r_36, (), rfl, hpost, by rw [ht]; exact hP, va_K.moved hW.alike hK, hD⟩, hS.F ht⟩) hS.2.2 de_M_plan_68
        · skip
          refine lv_lload_n hx hb de_M_plan_33 rfl (lv_at hl 3 rfl) ?_
          refine lv_lconst (v := 0) hx hb de_M_plan_34 (by decide) ?_
          refine lv_aload_n hx hb de_M_plan_35 rfl (lv_at hl 0 rfl) ?_
          refine va_get (D := (dC, dI)) (ci := 9) (v := .ref (ad 5)) (C := "StabilitySumsModel") (T := TB_M) (N := 33) hx hb hts ui_M hown hK hP 0 rfl rfl 7 (by decide) (hts _ uw_703) (fun _ h9 => h9) rfl de_M_plan_36 ?_
          refine lv_iload_n hx hb de_M_plan_39 rfl (lv_at hl 2 rfl) ?_
          have hix_40 : a1 = nI a1.toNatClampNeg := cl_eq c_1
          refine rx_lald (f := t.1 4) (j := a1.toNatClampNeg) hx hb hK hP 5 0 rfl rfl (by first | exact (Nat.lt_of_lt_of_le (cl_lt c_1 (Int32.not_le.mpr c_27) (by omega)) (by omega)) | (exfalso; first | exact absurd c_4 c_28 | exact absurd c_28 c_4)) (by decide) de_M_plan_40 hix_40 ?_
          refine cl_Si (As := [.long a2, .long 0, .long (t.1 4 a1.toNatClampNeg)]) (rest := []) ⟨hx, hb, hml, hown, hts⟩ (mt_M_in l dC dI ad T t a2 0 (t.1 4 a1.toNatClampNeg)) (va_cwS 3 hts (uw_S uw_842 uw_843 uw_36 uw_844) rfl rfl rfl (by decide +kernel) ⟨Nat.le_of_ble_eq_true rfl, Nat.le_of_ble_eq_true rfl⟩) rfl hl.1 rfl (Nat.le_of_ble_eq_true rfl) de_M_plan_41 ⟨Nat.zero_le _, Nat.zero_le _⟩ hK hN hP hD hS hA (fun r_38 _ H locs hw_38 hP hD hS => ?_)
          have hw_38 : bz r_38 (x_in a2 0 (t.1 4 a1.toNatClampNeg)) := hw_38
          refine lv_if_ne (tgt := 69) hx hb de_M_plan_44 (by decide) (fun c_39 => ?_) (fun c_39 => ?_)
          · skip
            have c_39 := bz_t hw_38 c_39
            refine lv_aload_n hx hb de_M_plan_69 rfl (lv_at hl 0 rfl) ?_
            refine va_get (D := (dC, dI)) (ci := 9) (v := .int (nI (t.2.2.2 5))) (C := "StabilitySumsModel") (T := TB_M) (N := 33) hx hb hts ui_M hown hK hP 0 rfl rfl 27 (by decide) (hts _ uw_723) (fun _ h9 => h9) rfl de_M_plan_70 ?_
            refine lv_bipush (v := 20) hx hb de_M_plan_73 (by decide) ?_
            refine lv_icmp_ne (tgt := 84) hx hb de_M_plan_75 (by decide) (fun c_40 => ?_) (fun c_40 => ?_)
            · skip
              have c_40 : ¬ ((t.2.2.2 5) = 20) := fun z => c_40 ((nI_eq (a := t.2.2.2 5) (b := 20) (by omega) (by omega)).mpr z)
              refine lv_aload_n hx hb de_M_plan_84 rfl (lv_at hl 0 rfl) ?_
              refine lv_iconst (v := 0) hx hb de_M_plan_85 (by decide) ?_
              refine va_put (D := (dC, dI)) (ci := 9) (v := .int 0) (ty := .int) (C := "StabilitySumsModel") (T := TB_M) (N := 33) hx hb hts ui_M tt_M tk_M nm_M hown hK hP hD hS 0 rfl rfl 0 (by decide) (hts _ uw_696) (fun _ h9 => h9) rfl (by decide +kernel) rfl rfl (Nat.le_of_ble_eq_true rfl) de_M_plan_86 (fun H locs hP hD hS => ?_)
              have hP : va_P (dC, dI) CLS (wM ad T (sN t 0 0)) H := hP
              have hD : va_D A (wM ad T (sN t 0 0)) := hD
              refine lv_aload_n hx hb de_M_plan_89 rfl (lv_at hl 0 rfl) ?_
              refine va_get (D := (dC, dI)) (ci := 9) (v := .ref (ad 21)) (C := "StabilitySumsModel") (T := TB_M) (N := 33) hx hb hts ui_M hown hK hP 0 rfl rfl 28 (by decide) (hts _ uw_724) (fun _ h9 => h9) rfl de_M_plan_90 ?_
              refine lv_aload_n hx hb de_M_plan_93 rfl (lv_at hl 0 rfl) ?_
              refine va_get (D := (dC, dI)) (ci := 9) (v := .int (nI (t.2.2.2 5))) (C := "StabilitySumsModel") (T := TB_M) (N := 33) hx hb hts ui_M hown hK hP 0 rfl rfl 27 (by decide) (hts _ uw_723) (fun _ h9 => h9) rfl de_M_plan_94 ?_
              refine lv_iload_n hx hb de_M_plan_97 rfl (lv_at hl 1 rfl) ?_
              refine rw_zast (f := t.2.1 1) (j := (t.2.2.2 5)) (x := a0) hx hb hK hP hD hS 21 2 rfl rfl (by omega) (by decide) de_M_plan_98 (fun H locs hP hD hS => ?_)
              have hP : va_P (dC, dI) CLS (wM ad T (sI (sN t 0 0) 1 (t.2.2.2 5) (vp_nar .boolean a0))) H := hP
              have hD : va_D A (wM ad T (sI (sN t 0 0) 1 (t.2.2.2 5) (vp_nar .boolean a0))) := hD
              refine lv_aload_n hx hb de_M_plan_99 rfl (lv_at hl 0 rfl) ?_
              refine va_get (D := (dC, dI)) (ci := 9) (v := .ref (ad 22)) (C := "StabilitySumsModel") (T := TB_M) (N := 33) hx hb hts ui_M hown hK hP 0 rfl rfl 29 (by decide) (hts _ uw_725) (fun _ h9 => h9) rfl de_M_plan_100 ?_
              refine lv_aload_n hx hb de_M_plan_103 rfl (lv_at hl 0 rfl) ?_
              refine va_get (D := (dC, dI)) (ci := 9) (v := .int (nI (t.2.2.2 5))) (C := "StabilitySumsModel") (T := TB_M) (N := 33) hx hb hts ui_M hown hK hP 0 rfl rfl 27 (by decide) (hts _ uw_723) (fun _ h9 => h9) rfl de_M_plan_104 ?_
              refine lv_iload_n hx hb de_M_plan_107 rfl (lv_at hl 2 rfl) ?_
              refine rw_iast (f := t.2.1 2) (j := (t.2.2.2 5)) (x := a1) hx hb hK hP hD hS 22 1 rfl rfl (by omega) (by decide) de_M_plan_108 (fun H locs hP hD hS => ?_)
              have hP : va_P (dC, dI) CLS (wM ad T (sI (sI (sN t 0 0) 1 (t.2.2.2 5) (vp_nar .boolean a0)) 2 (t.2.2.2 5) a1)) H := hP
              have hD : va_D A (wM ad T (sI (sI (sN t 0 0) 1 (t.2.2.2 5) (vp_nar .boolean a0)) 2 (t.2.2.2 5) a1)) := hD
              refine lv_aload_n hx hb de_M_plan_109 rfl (lv_at hl 0 rfl) ?_
              refine va_get (D := (dC, dI)) (ci := 9) (v := .ref (ad 23)) (C := "StabilitySumsModel") (T := TB_M) (N := 33) hx hb hts ui_M hown hK hP 0 rfl rfl 30 (by decide) (hts _ uw_726) (fun _ h9 => h9) rfl de_M_plan_110 ?_
              refine lv_aload_n hx hb de_M_plan_113 rfl (lv_at hl 0 rfl) ?_
              refine va_get (D := (dC, dI)) (ci := 9) (v := .int (nI (t.2.2.2 5))) (C := "StabilitySumsModel") (T := TB_M) (N := 33) hx hb hts ui_M hown hK hP 0 rfl rfl 27 (by decide) (hts _ uw_723) (fun _ h9 => h9) rfl de_M_plan_114 ?_
              refine lv_lload_n hx hb de_M_plan_117 rfl (lv_at hl 3 rfl) ?_
              refine rw_last (f := t.1 19) (j := (t.2.2.2 5)) (x := a2) hx hb hK hP hD hS 23 0 rfl rfl (by omega) (by decide) de_M_plan_118 (fun H locs hP hD hS => ?_)
              have hP : va_P (dC, dI) CLS (wM ad T (sL (sI (sI (sN t 0 0) 1 (t.2.2.2 5) (vp_nar .boolean a0)) 2 (t.2.2.2 5) a1) 19 (t.2.2.2 5) a2)) H := hP
              have hD : va_D A (wM ad T (sL (sI (sI (sN t 0 0) 1 (t.2.2.2 5) (vp_nar .boolean a0)) 2 (t.2.2.2 5) a1) 19 (t.2.2.2 5) a2)) := hD
              refine lv_aload_n hx hb de_M_plan_119 rfl (lv_at hl 0 rfl) ?_
              refine lv_dup hx hb de_M_plan_120 rfl ?_
              refine va_get (D := (dC, dI)) (ci := 9) (v := .int (nI (t.2.2.2 5))) (C := "StabilitySumsModel") (T := TB_M) (N := 33) hx hb hts ui_M hown hK hP 0 rfl rfl 27 (by decide) (hts _ uw_723) (fun _ h9 => h9) rfl de_M_plan_121 ?_
              refine lv_iconst (v := 1) hx hb de_M_plan_124 (by decide) ?_
              refine lv_iadd hx hb de_M_plan_125 ?_
              refine lv_topi (fun v_41 ev_41 => ?_)
              have ev_41 : v_41 = (nI ((t.2.2.2 5) + 1)) := ev_41.trans (nI_add (t.2.2.2 5) 1)
              subst ev_41
              refine va_put (D := (dC, dI)) (ci := 9) (v := .int (nI ((t.2.2.2 5) + 1))) (ty := .int) (C := "StabilitySumsModel") (T := TB_M) (N := 33) hx hb hts ui_M tt_M tk_M nm_M hown hK hP hD hS 0 rfl rfl 27 (by decide) (hts _ uw_723) (fun _ h9 => h9) rfl (by decide +kernel) rfl rfl (Nat.le_of_ble_eq_true rfl) de_M_plan_126 (fun H locs hP hD hS => ?_)
              have hP : va_P (dC, dI) CLS (wM ad T (sN (sL (sI (sI (sN t 0 0) 1 (t.2.2.2 5) (vp_nar .boolean a0)) 2 (t.2.2.2 5) a1) 19 (t.2.2.2 5) a2) 5 ((t.2.2.2 5) + 1))) H := hP
              have hD : va_D A (wM ad T (sN (sL (sI (sI (sN t 0 0) 1 (t.2.2.2 5) (vp_nar .boolean a0)) 2 (t.2.2.2 5) a1) 19 (t.2.2.2 5) a2) 5 ((t.2.2.2 5) + 1))) := hD
              refine lv_aload_n hx hb de_M_plan_129 rfl (lv_at hl 0 rfl) ?_
              refine va_get (D := (dC, dI)) (ci := 9) (v := .int (nI ((t.2.2.2 5) + 1))) (C := "StabilitySumsModel") (T := TB_M) (N := 33) hx hb hts ui_M hown hK hP 0 rfl rfl 27 (by decide) (hts _ uw_723) (fun _ h9 => h9) rfl de_M_plan_130 ?_
              refine lv_iconst (v := 1) hx hb de_M_plan_133 (by decide) ?_
              refine lv_isub hx hb de_M_plan_134 ?_
              refine lv_topi (fun v_42 ev_42 => ?_)
              have ev_42 : v_42 = (nI (((t.2.2.2 5) + 1) - 1)) := ev_42.trans (pk_sub (a := (t.2.2.2 5) + 1) (b := 1) (by omega))
              subst ev_42
              have hfin : (sN (sL (sI (sI (sN t 0 0) 1 (t.2.2.2 5) (vp_nar .boolean a0)) 2 (t.2.2.2 5) a1) 19 (t.2.2.2 5) a2) 5 ((t.2.2.2 5) + 1)) = y_pl3 a0 a1 a2 t (sN t 0 1) (sN t 0 2) (sN t 0 3) (yp a0 a1 a2 t) := by
                unfold y_pl3; rw [if_neg c_1, if_neg c_4, if_pos c_27, if_pos c_39, if_neg c_40]; first | done | assumption | rfl
              rw [hfin] at hP hD
              subst hQ
              have hpost : ((nI (((t.2.2.2 5) + 1) - 1)) : Int32) = y_pl3 a0 a1 a2 t 0 0 0 (nI (t.2.2.2 5)) := by
                unfold y_pl3; rw [if_neg c_1, if_neg c_4, if_pos c_27, if_pos c_39, if_neg c_40]; first | done | assumption | rfl
              exact W.iret (v := (nI (((t.2.2.2 5) + 1) - 1))) hx hb hr (fun t9 ht hW => ⟨⟨(nI (((t.2.2.2 5) + 1) - 1)), (), rfl, hpost, by rw [ht]; exact hP, va_K.moved hW.alike hK, hD⟩, hS.F ht⟩) hS.2.2 de_M_plan_135
            · skip
              have c_40 : (t.2.2.2 5) = 20 := (nI_eq (a := t.2.2.2 5) (b := 20) (by omega) (by omega)).mp c_40
              refine lv_aload_n hx hb de_M_plan_78 rfl (lv_at hl 0 rfl) ?_
              refine lv_iconst (v := 3) hx hb de_M_plan_79 (by decide) ?_
              refine cl_Vi (As := [.int 3]) (rest := []) ⟨hx, hb, hml, hown, hts⟩ (mt_M_fails l dC dI ad T t 3) (cwV 1 hts (uw_V uw_845 uw_847 uw_18 uw_36 uw_848) rfl rfl rfl (by decide +kernel) ⟨Nat.le_of_ble_eq_true rfl, Nat.le_of_ble_eq_true rfl⟩) (va_recv hK hP (ci := 9) (q0 := 0) rfl rfl) rfl hl.1 rfl (Nat.le_of_ble_eq_true rfl) de_M_plan_80 ⟨Nat.zero_le _, Nat.zero_le _⟩ hK hN hP hD hS hA (fun r_43 _ H locs hw_43 hP hD hS => ?_)
              have hw_43 : r_43 = 0 := hw_43
              obtain ⟨t_44, et_44⟩ : ∃ z, z = sN t 0 3 := ⟨_, rfl⟩
              have hP : va_P (dC, dI) CLS (wM ad T t_44) H := by rw [et_44]; exact hP
              have hD : va_D A (wM ad T t_44) := by rw [et_44]; exact hD
              have hfin : t_44 = y_pl3 a0 a1 a2 t (sN t 0 1) (sN t 0 2) (sN t 0 3) (yp a0 a1 a2 t) := by
                unfold y_pl3; rw [if_neg c_1, if_neg c_4, if_pos c_27, if_pos c_39, if_pos c_40]; first | done | assumption | rfl
              rw [hfin] at hP hD
              subst hQ
              have hpost : (r_43 : Int32) = y_pl3 a0 a1 a2 t 0 0 0 (nI (t.2.2.2 5)) := by
                unfold y_pl3; rw [if_neg c_1, if_neg c_4, if_pos c_27, if_pos c_39, if_pos c_40]; first | done | assumption | rfl
              exact W.iret (v := r_43) hx hb hr (fun t9 ht hW => ⟨⟨r_43, (), rfl, hpost, by rw [ht]; exact hP, va_K.moved hW.alike hK, hD⟩, hS.F ht⟩) hS.2.2 de_M_plan_83
          · skip
            have c_39 := bz_f hw_38 c_39
            refine lv_goto (tgt := 63) hx hb de_M_plan_47 (by decide) ?_
            refine lv_aload_n hx hb de_M_plan_63 rfl (lv_at hl 0 rfl) ?_
            refine lv_iconst (v := 2) hx hb de_M_plan_64 (by decide) ?_
            refine cl_Vi (As := [.int 2]) (rest := []) ⟨hx, hb, hml, hown, hts⟩ (mt_M_fails l dC dI ad T t 2) (cwV 1 hts (uw_V uw_845 uw_847 uw_18 uw_36 uw_848) rfl rfl rfl (by decide +kernel) ⟨Nat.le_of_ble_eq_true rfl, Nat.le_of_ble_eq_true rfl⟩) (va_recv hK hP (ci := 9) (q0 := 0) rfl rfl) rfl hl.1 rfl (Nat.le_of_ble_eq_true rfl) de_M_plan_65 ⟨Nat.zero_le _, Nat.zero_le _⟩ hK hN hP hD hS hA (fun r_45 _ H locs hw_45 hP hD hS => ?_)
            have hw_45 : r_45 = 0 := hw_45
            obtain ⟨t_46, et_46⟩ : ∃ z, z = sN t 0 2 := ⟨_, rfl⟩
            have hP : va_P (dC, dI) CLS (wM ad T t_46) H := by rw [et_46]; exact hP
            have hD : va_D A (wM ad T t_46) := by rw [et_46]; exact hD
            have hfin : t_46 = y_pl3 a0 a1 a2 t (sN t 0 1) (sN t 0 2) (sN t 0 3) (yp a0 a1 a2 t) := by
              unfold y_pl3; rw [if_neg c_1, if_neg c_4, if_pos c_27, if_neg c_39]; first | done | assumption | rfl
            rw [hfin] at hP hD
            subst hQ
            have hpost : (r_45 : Int32) = y_pl3 a0 a1 a2 t 0 0 0 (nI (t.2.2.2 5)) := by
              unfold y_pl3; rw [if_neg c_1, if_neg c_4, if_pos c_27, if_neg c_39]; first | done | assumption | rfl
            exact W.iret (v := r_45) hx hb hr (fun t9 ht hW => ⟨⟨r_45, (), rfl, hpost, by rw [ht]; exact hP, va_K.moved hW.alike hK, hD⟩, hS.F ht⟩) hS.2.2 de_M_plan_68
      · skip
        refine lv_aload_n hx hb de_M_plan_23 rfl (lv_at hl 0 rfl) ?_
        refine lv_iconst (v := 1) hx hb de_M_plan_24 (by decide) ?_
        refine cl_Vi (As := [.int 1]) (rest := []) ⟨hx, hb, hml, hown, hts⟩ (mt_M_fails l dC dI ad T t 1) (cwV 1 hts (uw_V uw_845 uw_847 uw_18 uw_36 uw_848) rfl rfl rfl (by decide +kernel) ⟨Nat.le_of_ble_eq_true rfl, Nat.le_of_ble_eq_true rfl⟩) (va_recv hK hP (ci := 9) (q0 := 0) rfl rfl) rfl hl.1 rfl (Nat.le_of_ble_eq_true rfl) de_M_plan_25 ⟨Nat.zero_le _, Nat.zero_le _⟩ hK hN hP hD hS hA (fun r_47 _ H locs hw_47 hP hD hS => ?_)
        have hw_47 : r_47 = 0 := hw_47
        obtain ⟨t_48, et_48⟩ : ∃ z, z = sN t 0 1 := ⟨_, rfl⟩
        have hP : va_P (dC, dI) CLS (wM ad T t_48) H := by rw [et_48]; exact hP
        have hD : va_D A (wM ad T t_48) := by rw [et_48]; exact hD
        have hfin : t_48 = y_pl3 a0 a1 a2 t (sN t 0 1) (sN t 0 2) (sN t 0 3) (yp a0 a1 a2 t) := by
          unfold y_pl3; rw [if_neg c_1, if_neg c_4, if_neg c_27]; first | done | assumption
        rw [hfin] at hP hD
        subst hQ
        have hpost : (r_47 : Int32) = y_pl3 a0 a1 a2 t 0 0 0 (nI (t.2.2.2 5)) := by
          unfold y_pl3; rw [if_neg c_1, if_neg c_4, if_neg c_27]; first | done | assumption
        exact W.iret (v := r_47) hx hb hr (fun t9 ht hW => ⟨⟨r_47, (), rfl, hpost, by rw [ht]; exact hP, va_K.moved hW.alike hK, hD⟩, hS.F ht⟩) hS.2.2 de_M_plan_28
