set_option maxHeartbeats 4000000 in
set_option maxRecDepth 100000 in
theorem mt_M_value (l : Launch) (dC : Nat → ClassId) (dI : Nat → Nat → Nat) (ad : Nat → Nat) (T : Nat → ClassId) (t : St) (a0 : Int32) (a1 : Int32) (hI : IvM t) (hz : okV a0 a1 → ¬ (y_div a0 ∧ y_S 0 (y_pre t) = 0) → ¬ y_D a0 (y_v0 t) = 0 ∧ ¬ y_g a0 t = 0) (sz : Nat) : Met l yn_M_value (.code yn_M_value cd_M_value 5 (some .long) :: UW) ({ frames := 2, cells := 0, slots := 0, locals := 53 } : Room) (va_Pc [.ref (ad 0), .int a0, .int a1] (Pw (dC, dI) CLS (TY T) (wM ad T t) sz)) (va_Ql (fun (r : Int64) (_ : Unit) => r = if okV a0 a1 then (if y_div a0 ∧ y_S 0 (y_pre t) = 0 then 0 else y_vv a0 a1 t) else 0) (Bw (dC, dI) CLS (TY T) (fun _ : Unit => (wM ad T (if okV a0 a1 then (if y_div a0 ∧ y_S 0 (y_pre t) = 0 then sN (y_pre t) 0 2 else y_rk a0 (y_v0 t)) else sN (y_pre t) 0 1))) (va_A (wM ad T t) sz)) (va_A (wM ad T t) sz)) 0 0 (va_A (wM ad T t) sz) := by
  refine Met.ofW (cc := cd_M_value) (maxL := 5) (ret := (some .long)) (by decide) rfl ?_
  intro p e s m args below meth c s₁ B hml hv
  obtain ⟨rfl, hsz, hP, hK, hD0, hN⟩ := hv
  have hx := B.exec
  have hb := B.bytes
  have hr := B.returns
  have hts : ∀ w ∈ UW, w.before _ s = true := fun w h => atoms_spec (ws := .code yn_M_value cd_M_value 5 (some .long) :: UW) B.pre w (List.mem_cons_of_mem _ h)
  have hown : s.vm.findClass "StabilitySumsModel" = some m.cls := findClass_of_methodNamed B.named
  have hlocks := B.notSynchronized
  subst hsz
  have hD := hD0.self (sz := s.heap.size)
  generalize hAe : va_A (wM ad T t) s.heap.size = A at hD ⊢
  have hA : ∀ q : Nat, s.heap.size ≤ q → A q := fun q h => by rw [← hAe]; exact Or.inr h
  have hS : va_S A s.heap s.heap [] := va_S.rf
  have hl := lv_entry ([.ref (ad 0), .int a0, .int a1]) (n := 5) (Nat.le_of_ble_eq_true rfl)
  rw [lg_entry_eq]
  generalize (lg_sl ([.ref (ad 0), .int a0, .int a1]) ++ List.replicate (5 - (lg_sl ([.ref (ad 0), .int a0, .int a1])).length) Slot.unset).toArray = ls at hl ⊢
  have hl : lv_has ls 5 [(0, .ref (ad 0)), (1, .int a0), (2, .int a1)] := hl
  generalize hQ : MQ below _ _ s 0 0 A = Q
  obtain ⟨hI1, hI2, hI3, hI4, hI5⟩ := hI
  refine lv_aload_n hx hb de_M_value_0 rfl (lv_at hl 0 rfl) ?_
  refine cl_Vv (As := []) (rest := []) ⟨hx, hb, hml, hown, hts⟩ (mt_M_present l dC dI ad T t (show IvM t from (by refine ⟨?_, ?_, ?_, ?_, ?_⟩ <;> omega))) (cwV 0 hts (uw_V uw_804 uw_806 uw_13 uw_36 uw_807) rfl rfl rfl (by decide +kernel) ⟨Nat.le_of_ble_eq_true rfl, Nat.le_of_ble_eq_true rfl⟩) (va_recv hK hP (ci := 9) (q0 := 0) rfl rfl) rfl hl.1 rfl (Nat.le_of_ble_eq_true rfl) de_M_value_1 ⟨Nat.zero_le _, Nat.zero_le _⟩ hK hN hP hD hS hA (fun _ H locs hw_1 hP hD hS => ?_)
  obtain ⟨t_2, et_2⟩ : ∃ z, z = y_pre t := ⟨_, rfl⟩
  have hP : va_P (dC, dI) CLS (wM ad T t_2) H := by rw [et_2]; exact hP
  have hD : va_D A (wM ad T t_2) := by rw [et_2]; exact hD
  obtain ⟨_, _, _, _, _⟩ : N5q t_2 t := by rw [et_2]; have h7 := n6to5 (a := y_pre t) (b := t) (y_pre_6 _); exact h7
  refine lv_aload_n hx hb de_M_value_4 rfl (lv_at hl 0 rfl) ?_
  refine lv_iload_n hx hb de_M_value_5 rfl (lv_at hl 1 rfl) ?_
  refine lv_if_lt (tgt := 24) hx hb de_M_value_6 (by decide) (fun c_3 => ?_) (fun c_3 => ?_)
  · skip
    refine lv_iconst (v := 1) hx hb de_M_value_24 (by decide) ?_
    refine lv_goto (tgt := 50) hx hb de_M_value_25 (by decide) ?_
    refine va_put (D := (dC, dI)) (ci := 9) (v := .int 1) (ty := .int) (C := "StabilitySumsModel") (T := TB_M) (N := 33) hx hb hts ui_M tt_M tk_M nm_M hown hK hP hD hS 0 rfl rfl 0 (by decide) (hts _ uw_696) (fun _ h9 => h9) rfl (by decide +kernel) rfl rfl (Nat.le_of_ble_eq_true rfl) de_M_value_50 (fun H locs hP hD hS => ?_)
    have hP : va_P (dC, dI) CLS (wM ad T (sN t_2 0 1)) H := hP
    have hD : va_D A (wM ad T (sN t_2 0 1)) := hD
    refine lv_aload_n hx hb de_M_value_53 rfl (lv_at hl 0 rfl) ?_
    refine va_get (D := (dC, dI)) (ci := 9) (v := .int (nI 1)) (C := "StabilitySumsModel") (T := TB_M) (N := 33) hx hb hts ui_M hown hK hP 0 rfl rfl 0 (by decide) (hts _ uw_696) (fun _ h9 => h9) rfl de_M_value_54 ?_
    refine lv_if_le (tgt := 62) hx hb de_M_value_57 (by decide) (fun c_4 => ?_) (fun c_4 => ?_)
    · skip
      exact absurd c_4 (by decide)
    · skip
      refine lv_lconst (v := 0) hx hb de_M_value_60 (by decide) ?_
      have hfin : (sN t_2 0 1) = if okV a0 a1 then (if y_div a0 ∧ y_S 0 (y_pre t) = 0 then sN (y_pre t) 0 2 else y_rk a0 (y_v0 t)) else sN (y_pre t) 0 1 := by
        rw [if_neg (fun h => h.1 c_3), et_2]
      rw [hfin] at hP hD
      subst hQ
      have hpost : (0 : Int64) = if okV a0 a1 then (if y_div a0 ∧ y_S 0 (y_pre t) = 0 then 0 else y_vv a0 a1 t) else 0 := by
        rw [if_neg (fun h => h.1 c_3)]
      exact W.lret (v := 0) hx hb hr (fun t9 ht hW => ⟨⟨0, (), rfl, hpost, by rw [ht]; exact hP, va_K.moved hW.alike hK, hD⟩, hS.F ht⟩) hS.2.2 de_M_value_61
  · skip
    refine lv_iload_n hx hb de_M_value_9 rfl (lv_at hl 1 rfl) ?_
    refine lv_bipush (v := 7) hx hb de_M_value_10 (by decide) ?_
    refine lv_icmp_gt (tgt := 24) hx hb de_M_value_12 (by decide) (fun c_5 => ?_) (fun c_5 => ?_)
    · skip
      refine lv_iconst (v := 1) hx hb de_M_value_24 (by decide) ?_
      refine lv_goto (tgt := 50) hx hb de_M_value_25 (by decide) ?_
      refine va_put (D := (dC, dI)) (ci := 9) (v := .int 1) (ty := .int) (C := "StabilitySumsModel") (T := TB_M) (N := 33) hx hb hts ui_M tt_M tk_M nm_M hown hK hP hD hS 0 rfl rfl 0 (by decide) (hts _ uw_696) (fun _ h9 => h9) rfl (by decide +kernel) rfl rfl (Nat.le_of_ble_eq_true rfl) de_M_value_50 (fun H locs hP hD hS => ?_)
      have hP : va_P (dC, dI) CLS (wM ad T (sN t_2 0 1)) H := hP
      have hD : va_D A (wM ad T (sN t_2 0 1)) := hD
      refine lv_aload_n hx hb de_M_value_53 rfl (lv_at hl 0 rfl) ?_
      refine va_get (D := (dC, dI)) (ci := 9) (v := .int (nI 1)) (C := "StabilitySumsModel") (T := TB_M) (N := 33) hx hb hts ui_M hown hK hP 0 rfl rfl 0 (by decide) (hts _ uw_696) (fun _ h9 => h9) rfl de_M_value_54 ?_
      refine lv_if_le (tgt := 62) hx hb de_M_value_57 (by decide) (fun c_6 => ?_) (fun c_6 => ?_)
      · skip
        exact absurd c_6 (by decide)
      · skip
        refine lv_lconst (v := 0) hx hb de_M_value_60 (by decide) ?_
        have hfin : (sN t_2 0 1) = if okV a0 a1 then (if y_div a0 ∧ y_S 0 (y_pre t) = 0 then sN (y_pre t) 0 2 else y_rk a0 (y_v0 t)) else sN (y_pre t) 0 1 := by
          rw [if_neg (fun h => h.2.1 c_5), et_2]
        rw [hfin] at hP hD
        subst hQ
        have hpost : (0 : Int64) = if okV a0 a1 then (if y_div a0 ∧ y_S 0 (y_pre t) = 0 then 0 else y_vv a0 a1 t) else 0 := by
          rw [if_neg (fun h => h.2.1 c_5)]
        exact W.lret (v := 0) hx hb hr (fun t9 ht hW => ⟨⟨0, (), rfl, hpost, by rw [ht]; exact hP, va_K.moved hW.alike hK, hD⟩, hS.F ht⟩) hS.2.2 de_M_value_61
    · skip
      refine lv_iload_n hx hb de_M_value_15 rfl (lv_at hl 2 rfl) ?_
      refine lv_if_lt (tgt := 24) hx hb de_M_value_16 (by decide) (fun c_7 => ?_) (fun c_7 => ?_)
      · skip
        refine lv_iconst (v := 1) hx hb de_M_value_24 (by decide) ?_
        refine lv_goto (tgt := 50) hx hb de_M_value_25 (by decide) ?_
        refine va_put (D := (dC, dI)) (ci := 9) (v := .int 1) (ty := .int) (C := "StabilitySumsModel") (T := TB_M) (N := 33) hx hb hts ui_M tt_M tk_M nm_M hown hK hP hD hS 0 rfl rfl 0 (by decide) (hts _ uw_696) (fun _ h9 => h9) rfl (by decide +kernel) rfl rfl (Nat.le_of_ble_eq_true rfl) de_M_value_50 (fun H locs hP hD hS => ?_)
        have hP : va_P (dC, dI) CLS (wM ad T (sN t_2 0 1)) H := hP
        have hD : va_D A (wM ad T (sN t_2 0 1)) := hD
        refine lv_aload_n hx hb de_M_value_53 rfl (lv_at hl 0 rfl) ?_
        refine va_get (D := (dC, dI)) (ci := 9) (v := .int (nI 1)) (C := "StabilitySumsModel") (T := TB_M) (N := 33) hx hb hts ui_M hown hK hP 0 rfl rfl 0 (by decide) (hts _ uw_696) (fun _ h9 => h9) rfl de_M_value_54 ?_
        refine lv_if_le (tgt := 62) hx hb de_M_value_57 (by decide) (fun c_8 => ?_) (fun c_8 => ?_)
        · skip
          exact absurd c_8 (by decide)
        · skip
          refine lv_lconst (v := 0) hx hb de_M_value_60 (by decide) ?_
          have hfin : (sN t_2 0 1) = if okV a0 a1 then (if y_div a0 ∧ y_S 0 (y_pre t) = 0 then sN (y_pre t) 0 2 else y_rk a0 (y_v0 t)) else sN (y_pre t) 0 1 := by
            rw [if_neg (fun h => h.2.2.1 c_7), et_2]
          rw [hfin] at hP hD
          subst hQ
          have hpost : (0 : Int64) = if okV a0 a1 then (if y_div a0 ∧ y_S 0 (y_pre t) = 0 then 0 else y_vv a0 a1 t) else 0 := by
            rw [if_neg (fun h => h.2.2.1 c_7)]
          exact W.lret (v := 0) hx hb hr (fun t9 ht hW => ⟨⟨0, (), rfl, hpost, by rw [ht]; exact hP, va_K.moved hW.alike hK, hD⟩, hS.F ht⟩) hS.2.2 de_M_value_61
      · skip
        refine lv_iload_n hx hb de_M_value_19 rfl (lv_at hl 2 rfl) ?_
        refine lv_iconst (v := 2) hx hb de_M_value_20 (by decide) ?_
        refine lv_icmp_le (tgt := 28) hx hb de_M_value_21 (by decide) (fun c_9 => ?_) (fun c_9 => ?_)
        · skip
          refine lv_iload_n hx hb de_M_value_28 rfl (lv_at hl 1 rfl) ?_
          refine cl_Si (As := [.int a0]) (rest := [.ref (ad 0)]) ⟨hx, hb, hml, hown, hts⟩ (mt_M_divides l dC dI ad T t_2 a0) (va_cwS 1 hts (uw_S uw_808 uw_809 uw_36 uw_810) rfl rfl rfl (by decide +kernel) ⟨Nat.le_of_ble_eq_true rfl, Nat.le_of_ble_eq_true rfl⟩) rfl hl.1 rfl (Nat.le_of_ble_eq_true rfl) de_M_value_29 ⟨Nat.zero_le _, Nat.zero_le _⟩ hK hN hP hD hS hA (fun r_10 _ H locs hw_10 hP hD hS => ?_)
          have hw_10 : bz r_10 (y_div a0) := hw_10
          refine lv_if_eq (tgt := 49) hx hb de_M_value_32 (by decide) (fun c_11 => ?_) (fun c_11 => ?_)
          · skip
            have c_11 := bz_f hw_10 c_11
            refine lv_iconst (v := 0) hx hb de_M_value_49 (by decide) ?_
            refine va_put (D := (dC, dI)) (ci := 9) (v := .int 0) (ty := .int) (C := "StabilitySumsModel") (T := TB_M) (N := 33) hx hb hts ui_M tt_M tk_M nm_M hown hK hP hD hS 0 rfl rfl 0 (by decide) (hts _ uw_696) (fun _ h9 => h9) rfl (by decide +kernel) rfl rfl (Nat.le_of_ble_eq_true rfl) de_M_value_50 (fun H locs hP hD hS => ?_)
            have hP : va_P (dC, dI) CLS (wM ad T (sN t_2 0 0)) H := hP
            have hD : va_D A (wM ad T (sN t_2 0 0)) := hD
            refine lv_aload_n hx hb de_M_value_53 rfl (lv_at hl 0 rfl) ?_
            refine va_get (D := (dC, dI)) (ci := 9) (v := .int (nI 0)) (C := "StabilitySumsModel") (T := TB_M) (N := 33) hx hb hts ui_M hown hK hP 0 rfl rfl 0 (by decide) (hts _ uw_696) (fun _ h9 => h9) rfl de_M_value_54 ?_
            refine lv_if_le (tgt := 62) hx hb de_M_value_57 (by decide) (fun c_12 => ?_) (fun c_12 => ?_)
            · skip
              refine lv_aload_n hx hb de_M_value_62 rfl (lv_at hl 0 rfl) ?_
              refine lv_iload_n hx hb de_M_value_63 rfl (lv_at hl 1 rfl) ?_
              refine cl_Vv (As := [.int a0]) (rest := []) ⟨hx, hb, hml, hown, hts⟩ (mt_M_reckon l dC dI ad T (sN t_2 0 0) a0 (show IvM t_2 from (by refine ⟨?_, ?_, ?_, ?_, ?_⟩ <;> omega))) (cwV 1 hts (uw_V uw_815 uw_817 uw_15 uw_36 uw_818) rfl rfl rfl (by decide +kernel) ⟨Nat.le_of_ble_eq_true rfl, Nat.le_of_ble_eq_true rfl⟩) (va_recv hK hP (ci := 9) (q0 := 0) rfl rfl) rfl hl.1 rfl (Nat.le_of_ble_eq_true rfl) de_M_value_64 ⟨Nat.zero_le _, Nat.zero_le _⟩ hK hN hP hD hS hA (fun _ H locs hw_13 hP hD hS => ?_)
              obtain ⟨t_14, et_14⟩ : ∃ z, z = y_rk a0 (sN t_2 0 0) := ⟨_, rfl⟩
              have hP : va_P (dC, dI) CLS (wM ad T t_14) H := by rw [et_14]; exact hP
              have hD : va_D A (wM ad T t_14) := by rw [et_14]; exact hD
              obtain ⟨_, _, _, _, _⟩ : N5q t_14 t_2 := by rw [et_14]; have h7 := n6to5 (a := y_rk a0 (sN t_2 0 0)) (b := (sN t_2 0 0)) (nsix rfl); exact h7
              refine lv_aload_n hx hb de_M_value_67 rfl (lv_at hl 0 rfl) ?_
              refine va_get (D := (dC, dI)) (ci := 9) (v := .long (t_14.2.2.1 2)) (C := "StabilitySumsModel") (T := TB_M) (N := 33) hx hb hts ui_M hown hK hP 0 rfl rfl 31 (by decide) (hts _ uw_727) (fun _ h9 => h9) rfl de_M_value_68 ?_
              refine lv_aload_n hx hb de_M_value_71 rfl (lv_at hl 0 rfl) ?_
              refine va_get (D := (dC, dI)) (ci := 9) (v := .long (t_14.2.2.1 3)) (C := "StabilitySumsModel") (T := TB_M) (N := 33) hx hb hts ui_M hown hK hP 0 rfl rfl 32 (by decide) (hts _ uw_728) (fun _ h9 => h9) rfl de_M_value_72 ?_
              refine cl_Sl (As := [.long (t_14.2.2.1 2), .long (t_14.2.2.1 3)]) (rest := []) ⟨hx, hb, hml, hown, hts⟩ (mt_M_common l dC dI ad T t_14 (t_14.2.2.1 2) (t_14.2.2.1 3)) (va_cwS 2 hts (uw_S uw_828 uw_829 uw_36 uw_830) rfl rfl rfl (by decide +kernel) ⟨Nat.le_of_ble_eq_true rfl, Nat.le_of_ble_eq_true rfl⟩) rfl hl.1 rfl (Nat.le_of_ble_eq_true rfl) de_M_value_75 ⟨Nat.zero_le _, Nat.zero_le _⟩ hK hN hP hD hS hA (fun r_15 _ H locs hw_15 hP hD hS => ?_)
              have hw_15 : r_15 = x_gcd ((t_14.2.2.1 3).toInt.natAbs) (y_ab (t_14.2.2.1 2)) (t_14.2.2.1 3) := hw_15
              refine lv_lstore_n (lv' := [(3, .long r_15), (0, .ref (ad 0)), (1, .int a0), (2, .int a1)]) hx hb de_M_value_78 rfl hl (by decide) rfl (fun ls hl => ?_)
              refine lv_iload_n hx hb de_M_value_79 rfl (lv_at hl 3 rfl) ?_
              refine lv_if_ne (tgt := 97) hx hb de_M_value_80 (by decide) (fun c_16 => ?_) (fun c_16 => ?_)
              · skip
                refine lv_iload_n hx hb de_M_value_97 rfl (lv_at hl 3 rfl) ?_
                refine lv_iconst (v := 1) hx hb de_M_value_98 (by decide) ?_
                refine lv_icmp_ne (tgt := 111) hx hb de_M_value_99 (by decide) (fun c_17 => ?_) (fun c_17 => ?_)
                · skip
                  refine lv_aload_n hx hb de_M_value_111 rfl (lv_at hl 1 rfl) ?_
                  refine va_get (D := (dC, dI)) (ci := 9) (v := .long (t_14.2.2.1 3)) (C := "StabilitySumsModel") (T := TB_M) (N := 33) hx hb hts ui_M hown hK hP 0 rfl rfl 32 (by decide) (hts _ uw_728) (fun _ h9 => h9) rfl de_M_value_112 ?_
                  refine lv_lload_n hx hb de_M_value_115 rfl (lv_at hl 0 rfl) ?_
                  refine lv_ldiv hx hb de_M_value_116 (fun z => (hz ⟨c_3, c_5, c_7, c_9⟩ (fun q => c_11 q.1)).2 (by rw [hw_15, et_14, et_2] at z; exact z)) ?_
                  refine lv_topl (fun v_18 ev_18 => ?_)
                  have ev_18 : v_18 = (t_14.2.2.1 3) / r_15 := ev_18
                  have hfin : t_14 = if okV a0 a1 then (if y_div a0 ∧ y_S 0 (y_pre t) = 0 then sN (y_pre t) 0 2 else y_rk a0 (y_v0 t)) else sN (y_pre t) 0 1 := by
                    rw [if_pos ⟨c_3, c_5, c_7, c_9⟩, if_neg (fun q => c_11 q.1), et_14, et_2]
                  rw [hfin] at hP hD
                  subst hQ
                  have hpost : (v_18 : Int64) = if okV a0 a1 then (if y_div a0 ∧ y_S 0 (y_pre t) = 0 then 0 else y_vv a0 a1 t) else 0 := by
                    rw [if_pos ⟨c_3, c_5, c_7, c_9⟩, if_neg (fun q => c_11 q.1), y_vv, if_neg c_16, if_neg c_17]
                    clear hfin; subst_vars; rfl
                  exact W.lret (v := v_18) hx hb hr (fun t9 ht hW => ⟨⟨v_18, (), rfl, hpost, by rw [ht]; exact hP, va_K.moved hW.alike hK, hD⟩, hS.F ht⟩) hS.2.2 de_M_value_117
                · skip
                  refine lv_aload_n hx hb de_M_value_102 rfl (lv_at hl 1 rfl) ?_
                  refine va_get (D := (dC, dI)) (ci := 9) (v := .long (t_14.2.2.1 2)) (C := "StabilitySumsModel") (T := TB_M) (N := 33) hx hb hts ui_M hown hK hP 0 rfl rfl 31 (by decide) (hts _ uw_727) (fun _ h9 => h9) rfl de_M_value_103 ?_
                  refine lv_lload_n hx hb de_M_value_106 rfl (lv_at hl 0 rfl) ?_
                  refine lv_ldiv hx hb de_M_value_107 (fun z => (hz ⟨c_3, c_5, c_7, c_9⟩ (fun q => c_11 q.1)).2 (by rw [hw_15, et_14, et_2] at z; exact z)) ?_
                  refine lv_topl (fun v_19 ev_19 => ?_)
                  have ev_19 : v_19 = (t_14.2.2.1 2) / r_15 := ev_19
                  refine lv_goto (tgt := 117) hx hb de_M_value_108 (by decide) ?_
                  have hfin : t_14 = if okV a0 a1 then (if y_div a0 ∧ y_S 0 (y_pre t) = 0 then sN (y_pre t) 0 2 else y_rk a0 (y_v0 t)) else sN (y_pre t) 0 1 := by
                    rw [if_pos ⟨c_3, c_5, c_7, c_9⟩, if_neg (fun q => c_11 q.1), et_14, et_2]
                  rw [hfin] at hP hD
                  subst hQ
                  have hpost : (v_19 : Int64) = if okV a0 a1 then (if y_div a0 ∧ y_S 0 (y_pre t) = 0 then 0 else y_vv a0 a1 t) else 0 := by
                    rw [if_pos ⟨c_3, c_5, c_7, c_9⟩, if_neg (fun q => c_11 q.1), y_vv, if_neg c_16, if_pos c_17]
                    clear hfin; subst_vars; rfl
                  exact W.lret (v := v_19) hx hb hr (fun t9 ht hW => ⟨⟨v_19, (), rfl, hpost, by rw [ht]; exact hP, va_K.moved hW.alike hK, hD⟩, hS.F ht⟩) hS.2.2 de_M_value_117
              · skip
                refine lv_aload_n hx hb de_M_value_83 rfl (lv_at hl 1 rfl) ?_
                refine va_get (D := (dC, dI)) (ci := 9) (v := .long (t_14.2.2.1 2)) (C := "StabilitySumsModel") (T := TB_M) (N := 33) hx hb hts ui_M hown hK hP 0 rfl rfl 31 (by decide) (hts _ uw_727) (fun _ h9 => h9) rfl de_M_value_84 ?_
                refine lv_aload_n hx hb de_M_value_87 rfl (lv_at hl 1 rfl) ?_
                refine va_get (D := (dC, dI)) (ci := 9) (v := .long (t_14.2.2.1 3)) (C := "StabilitySumsModel") (T := TB_M) (N := 33) hx hb hts ui_M hown hK hP 0 rfl rfl 32 (by decide) (hts _ uw_728) (fun _ h9 => h9) rfl de_M_value_88 ?_
                refine cl_Sl (As := [.long (t_14.2.2.1 2), .long (t_14.2.2.1 3)]) (rest := []) ⟨hx, hb, hml, hown, hts⟩ (mt_M_floor l dC dI ad T t_14 (t_14.2.2.1 2) (t_14.2.2.1 3) (fun z => (hz ⟨c_3, c_5, c_7, c_9⟩ (fun q => c_11 q.1)).1 (by rw [et_14, et_2] at z; exact z))) (va_cwS 2 hts (uw_S uw_831 uw_832 uw_36 uw_833) rfl rfl rfl (by decide +kernel) ⟨Nat.le_of_ble_eq_true rfl, Nat.le_of_ble_eq_true rfl⟩) rfl hl.1 rfl (Nat.le_of_ble_eq_true rfl) de_M_value_91 ⟨Nat.zero_le _, Nat.zero_le _⟩ hK hN hP hD hS hA (fun r_20 _ H locs hw_20 hP hD hS => ?_)
                have hw_20 : r_20 = y_fl (t_14.2.2.1 2) (t_14.2.2.1 3) := hw_20
                refine lv_goto (tgt := 117) hx hb de_M_value_94 (by decide) ?_
                have hfin : t_14 = if okV a0 a1 then (if y_div a0 ∧ y_S 0 (y_pre t) = 0 then sN (y_pre t) 0 2 else y_rk a0 (y_v0 t)) else sN (y_pre t) 0 1 := by
                  rw [if_pos ⟨c_3, c_5, c_7, c_9⟩, if_neg (fun q => c_11 q.1), et_14, et_2]
                rw [hfin] at hP hD
                subst hQ
                have hpost : (r_20 : Int64) = if okV a0 a1 then (if y_div a0 ∧ y_S 0 (y_pre t) = 0 then 0 else y_vv a0 a1 t) else 0 := by
                  rw [if_pos ⟨c_3, c_5, c_7, c_9⟩, if_neg (fun q => c_11 q.1), y_vv, if_pos c_16]
                  clear hfin; subst_vars; rfl
                exact W.lret (v := r_20) hx hb hr (fun t9 ht hW => ⟨⟨r_20, (), rfl, hpost, by rw [ht]; exact hP, va_K.moved hW.alike hK, hD⟩, hS.F ht⟩) hS.2.2 de_M_value_117
            · skip
              exact absurd (by decide) c_12
          · skip
            have c_11 := bz_t hw_10 c_11
            refine lv_aload_n hx hb de_M_value_35 rfl (lv_at hl 0 rfl) ?_
            refine lv_iconst (v := 0) hx hb de_M_value_36 (by decide) ?_
            refine cl_Vl (As := [.int 0]) (rest := [.ref (ad 0)]) ⟨hx, hb, hml, hown, hts⟩ (mt_M_sum l dC dI ad T t_2 0 (show IvM t_2 from (by refine ⟨?_, ?_, ?_, ?_, ?_⟩ <;> omega))) (cwV 1 hts (uw_V uw_811 uw_813 uw_14 uw_36 uw_814) rfl rfl rfl (by decide +kernel) ⟨Nat.le_of_ble_eq_true rfl, Nat.le_of_ble_eq_true rfl⟩) (va_recv hK hP (ci := 9) (q0 := 0) rfl rfl) rfl hl.1 rfl (Nat.le_of_ble_eq_true rfl) de_M_value_37 ⟨Nat.zero_le _, Nat.zero_le _⟩ hK hN hP hD hS hA (fun r_21 _ H locs hw_21 hP hD hS => ?_)
            have hw_21 : r_21 = y_S 0 t_2 := hw_21
            refine lv_lconst (v := 0) hx hb de_M_value_40 (by decide) ?_
            refine rw_ne (tgt := 49) hx hb de_M_value_41 de_M_value_42 (by decide) (fun c_22 => ?_) (fun c_22 => ?_)
            · skip
              refine lv_iconst (v := 0) hx hb de_M_value_49 (by decide) ?_
              refine va_put (D := (dC, dI)) (ci := 9) (v := .int 0) (ty := .int) (C := "StabilitySumsModel") (T := TB_M) (N := 33) hx hb hts ui_M tt_M tk_M nm_M hown hK hP hD hS 0 rfl rfl 0 (by decide) (hts _ uw_696) (fun _ h9 => h9) rfl (by decide +kernel) rfl rfl (Nat.le_of_ble_eq_true rfl) de_M_value_50 (fun H locs hP hD hS => ?_)
              have hP : va_P (dC, dI) CLS (wM ad T (sN t_2 0 0)) H := hP
              have hD : va_D A (wM ad T (sN t_2 0 0)) := hD
              refine lv_aload_n hx hb de_M_value_53 rfl (lv_at hl 0 rfl) ?_
              refine va_get (D := (dC, dI)) (ci := 9) (v := .int (nI 0)) (C := "StabilitySumsModel") (T := TB_M) (N := 33) hx hb hts ui_M hown hK hP 0 rfl rfl 0 (by decide) (hts _ uw_696) (fun _ h9 => h9) rfl de_M_value_54 ?_
              refine lv_if_le (tgt := 62) hx hb de_M_value_57 (by decide) (fun c_23 => ?_) (fun c_23 => ?_)
              · skip
                refine lv_aload_n hx hb de_M_value_62 rfl (lv_at hl 0 rfl) ?_
                refine lv_iload_n hx hb de_M_value_63 rfl (lv_at hl 1 rfl) ?_
                refine cl_Vv (As := [.int a0]) (rest := []) ⟨hx, hb, hml, hown, hts⟩ (mt_M_reckon l dC dI ad T (sN t_2 0 0) a0 (show IvM t_2 from (by refine ⟨?_, ?_, ?_, ?_, ?_⟩ <;> omega))) (cwV 1 hts (uw_V uw_815 uw_817 uw_15 uw_36 uw_818) rfl rfl rfl (by decide +kernel) ⟨Nat.le_of_ble_eq_true rfl, Nat.le_of_ble_eq_true rfl⟩) (va_recv hK hP (ci := 9) (q0 := 0) rfl rfl) rfl hl.1 rfl (Nat.le_of_ble_eq_true rfl) de_M_value_64 ⟨Nat.zero_le _, Nat.zero_le _⟩ hK hN hP hD hS hA (fun _ H locs hw_24 hP hD hS => ?_)
                obtain ⟨t_25, et_25⟩ : ∃ z, z = y_rk a0 (sN t_2 0 0) := ⟨_, rfl⟩
                have hP : va_P (dC, dI) CLS (wM ad T t_25) H := by rw [et_25]; exact hP
                have hD : va_D A (wM ad T t_25) := by rw [et_25]; exact hD
                obtain ⟨_, _, _, _, _⟩ : N5q t_25 t_2 := by rw [et_25]; have h7 := n6to5 (a := y_rk a0 (sN t_2 0 0)) (b := (sN t_2 0 0)) (nsix rfl); exact h7
                refine lv_aload_n hx hb de_M_value_67 rfl (lv_at hl 0 rfl) ?_
                refine va_get (D := (dC, dI)) (ci := 9) (v := .long (t_25.2.2.1 2)) (C := "StabilitySumsModel") (T := TB_M) (N := 33) hx hb hts ui_M hown hK hP 0 rfl rfl 31 (by decide) (hts _ uw_727) (fun _ h9 => h9) rfl de_M_value_68 ?_
                refine lv_aload_n hx hb de_M_value_71 rfl (lv_at hl 0 rfl) ?_
                refine va_get (D := (dC, dI)) (ci := 9) (v := .long (t_25.2.2.1 3)) (C := "StabilitySumsModel") (T := TB_M) (N := 33) hx hb hts ui_M hown hK hP 0 rfl rfl 32 (by decide) (hts _ uw_728) (fun _ h9 => h9) rfl de_M_value_72 ?_
                refine cl_Sl (As := [.long (t_25.2.2.1 2), .long (t_25.2.2.1 3)]) (rest := []) ⟨hx, hb, hml, hown, hts⟩ (mt_M_common l dC dI ad T t_25 (t_25.2.2.1 2) (t_25.2.2.1 3)) (va_cwS 2 hts (uw_S uw_828 uw_829 uw_36 uw_830) rfl rfl rfl (by decide +kernel) ⟨Nat.le_of_ble_eq_true rfl, Nat.le_of_ble_eq_true rfl⟩) rfl hl.1 rfl (Nat.le_of_ble_eq_true rfl) de_M_value_75 ⟨Nat.zero_le _, Nat.zero_le _⟩ hK hN hP hD hS hA (fun r_26 _ H locs hw_26 hP hD hS => ?_)
                have hw_26 : r_26 = x_gcd ((t_25.2.2.1 3).toInt.natAbs) (y_ab (t_25.2.2.1 2)) (t_25.2.2.1 3) := hw_26
                refine lv_lstore_n (lv' := [(3, .long r_26), (0, .ref (ad 0)), (1, .int a0), (2, .int a1)]) hx hb de_M_value_78 rfl hl (by decide) rfl (fun ls hl => ?_)
                refine lv_iload_n hx hb de_M_value_79 rfl (lv_at hl 3 rfl) ?_
                refine lv_if_ne (tgt := 97) hx hb de_M_value_80 (by decide) (fun c_27 => ?_) (fun c_27 => ?_)
                · skip
                  refine lv_iload_n hx hb de_M_value_97 rfl (lv_at hl 3 rfl) ?_
                  refine lv_iconst (v := 1) hx hb de_M_value_98 (by decide) ?_
                  refine lv_icmp_ne (tgt := 111) hx hb de_M_value_99 (by decide) (fun c_28 => ?_) (fun c_28 => ?_)
                  · skip
                    refine lv_aload_n hx hb de_M_value_111 rfl (lv_at hl 1 rfl) ?_
                    refine va_get (D := (dC, dI)) (ci := 9) (v := .long (t_25.2.2.1 3)) (C := "StabilitySumsModel") (T := TB_M) (N := 33) hx hb hts ui_M hown hK hP 0 rfl rfl 32 (by decide) (hts _ uw_728) (fun _ h9 => h9) rfl de_M_value_112 ?_
                    refine lv_lload_n hx hb de_M_value_115 rfl (lv_at hl 0 rfl) ?_
                    refine lv_ldiv hx hb de_M_value_116 (fun z => (hz ⟨c_3, c_5, c_7, c_9⟩ (fun q => c_22 (by rw [hw_21, et_2]; exact q.2))).2 (by rw [hw_26, et_25, et_2] at z; exact z)) ?_
                    refine lv_topl (fun v_29 ev_29 => ?_)
                    have ev_29 : v_29 = (t_25.2.2.1 3) / r_26 := ev_29
                    have hfin : t_25 = if okV a0 a1 then (if y_div a0 ∧ y_S 0 (y_pre t) = 0 then sN (y_pre t) 0 2 else y_rk a0 (y_v0 t)) else sN (y_pre t) 0 1 := by
                      rw [if_pos ⟨c_3, c_5, c_7, c_9⟩, if_neg (fun q => c_22 (by rw [hw_21, et_2]; exact q.2)), et_25, et_2]
                    rw [hfin] at hP hD
                    subst hQ
                    have hpost : (v_29 : Int64) = if okV a0 a1 then (if y_div a0 ∧ y_S 0 (y_pre t) = 0 then 0 else y_vv a0 a1 t) else 0 := by
                      rw [if_pos ⟨c_3, c_5, c_7, c_9⟩, if_neg (fun q => c_22 (by rw [hw_21, et_2]; exact q.2)), y_vv, if_neg c_27, if_neg c_28]
                      clear hfin; subst_vars; rfl
                    exact W.lret (v := v_29) hx hb hr (fun t9 ht hW => ⟨⟨v_29, (), rfl, hpost, by rw [ht]; exact hP, va_K.moved hW.alike hK, hD⟩, hS.F ht⟩) hS.2.2 de_M_value_117
                  · skip
                    refine lv_aload_n hx hb de_M_value_102 rfl (lv_at hl 1 rfl) ?_
                    refine va_get (D := (dC, dI)) (ci := 9) (v := .long (t_25.2.2.1 2)) (C := "StabilitySumsModel") (T := TB_M) (N := 33) hx hb hts ui_M hown hK hP 0 rfl rfl 31 (by decide) (hts _ uw_727) (fun _ h9 => h9) rfl de_M_value_103 ?_
                    refine lv_lload_n hx hb de_M_value_106 rfl (lv_at hl 0 rfl) ?_
                    refine lv_ldiv hx hb de_M_value_107 (fun z => (hz ⟨c_3, c_5, c_7, c_9⟩ (fun q => c_22 (by rw [hw_21, et_2]; exact q.2))).2 (by rw [hw_26, et_25, et_2] at z; exact z)) ?_
                    refine lv_topl (fun v_30 ev_30 => ?_)
                    have ev_30 : v_30 = (t_25.2.2.1 2) / r_26 := ev_30
                    refine lv_goto (tgt := 117) hx hb de_M_value_108 (by decide) ?_
                    have hfin : t_25 = if okV a0 a1 then (if y_div a0 ∧ y_S 0 (y_pre t) = 0 then sN (y_pre t) 0 2 else y_rk a0 (y_v0 t)) else sN (y_pre t) 0 1 := by
                      rw [if_pos ⟨c_3, c_5, c_7, c_9⟩, if_neg (fun q => c_22 (by rw [hw_21, et_2]; exact q.2)), et_25, et_2]
                    rw [hfin] at hP hD
                    subst hQ
                    have hpost : (v_30 : Int64) = if okV a0 a1 then (if y_div a0 ∧ y_S 0 (y_pre t) = 0 then 0 else y_vv a0 a1 t) else 0 := by
                      rw [if_pos ⟨c_3, c_5, c_7, c_9⟩, if_neg (fun q => c_22 (by rw [hw_21, et_2]; exact q.2)), y_vv, if_neg c_27, if_pos c_28]
                      clear hfin; subst_vars; rfl
                    exact W.lret (v := v_30) hx hb hr (fun t9 ht hW => ⟨⟨v_30, (), rfl, hpost, by rw [ht]; exact hP, va_K.moved hW.alike hK, hD⟩, hS.F ht⟩) hS.2.2 de_M_value_117
                · skip
                  refine lv_aload_n hx hb de_M_value_83 rfl (lv_at hl 1 rfl) ?_
                  refine va_get (D := (dC, dI)) (ci := 9) (v := .long (t_25.2.2.1 2)) (C := "StabilitySumsModel") (T := TB_M) (N := 33) hx hb hts ui_M hown hK hP 0 rfl rfl 31 (by decide) (hts _ uw_727) (fun _ h9 => h9) rfl de_M_value_84 ?_
                  refine lv_aload_n hx hb de_M_value_87 rfl (lv_at hl 1 rfl) ?_
                  refine va_get (D := (dC, dI)) (ci := 9) (v := .long (t_25.2.2.1 3)) (C := "StabilitySumsModel") (T := TB_M) (N := 33) hx hb hts ui_M hown hK hP 0 rfl rfl 32 (by decide) (hts _ uw_728) (fun _ h9 => h9) rfl de_M_value_88 ?_
                  refine cl_Sl (As := [.long (t_25.2.2.1 2), .long (t_25.2.2.1 3)]) (rest := []) ⟨hx, hb, hml, hown, hts⟩ (mt_M_floor l dC dI ad T t_25 (t_25.2.2.1 2) (t_25.2.2.1 3) (fun z => (hz ⟨c_3, c_5, c_7, c_9⟩ (fun q => c_22 (by rw [hw_21, et_2]; exact q.2))).1 (by rw [et_25, et_2] at z; exact z))) (va_cwS 2 hts (uw_S uw_831 uw_832 uw_36 uw_833) rfl rfl rfl (by decide +kernel) ⟨Nat.le_of_ble_eq_true rfl, Nat.le_of_ble_eq_true rfl⟩) rfl hl.1 rfl (Nat.le_of_ble_eq_true rfl) de_M_value_91 ⟨Nat.zero_le _, Nat.zero_le _⟩ hK hN hP hD hS hA (fun r_31 _ H locs hw_31 hP hD hS => ?_)
                  have hw_31 : r_31 = y_fl (t_25.2.2.1 2) (t_25.2.2.1 3) := hw_31
                  refine lv_goto (tgt := 117) hx hb de_M_value_94 (by decide) ?_
                  have hfin : t_25 = if okV a0 a1 then (if y_div a0 ∧ y_S 0 (y_pre t) = 0 then sN (y_pre t) 0 2 else y_rk a0 (y_v0 t)) else sN (y_pre t) 0 1 := by
                    rw [if_pos ⟨c_3, c_5, c_7, c_9⟩, if_neg (fun q => c_22 (by rw [hw_21, et_2]; exact q.2)), et_25, et_2]
                  rw [hfin] at hP hD
                  subst hQ
                  have hpost : (r_31 : Int64) = if okV a0 a1 then (if y_div a0 ∧ y_S 0 (y_pre t) = 0 then 0 else y_vv a0 a1 t) else 0 := by
                    rw [if_pos ⟨c_3, c_5, c_7, c_9⟩, if_neg (fun q => c_22 (by rw [hw_21, et_2]; exact q.2)), y_vv, if_pos c_27]
                    clear hfin; subst_vars; rfl
                  exact W.lret (v := r_31) hx hb hr (fun t9 ht hW => ⟨⟨r_31, (), rfl, hpost, by rw [ht]; exact hP, va_K.moved hW.alike hK, hD⟩, hS.F ht⟩) hS.2.2 de_M_value_117
              · skip
                exact absurd (by decide) c_23
            · skip
              refine lv_iconst (v := 2) hx hb de_M_value_45 (by decide) ?_
              refine lv_goto (tgt := 50) hx hb de_M_value_46 (by decide) ?_
              refine va_put (D := (dC, dI)) (ci := 9) (v := .int 2) (ty := .int) (C := "StabilitySumsModel") (T := TB_M) (N := 33) hx hb hts ui_M tt_M tk_M nm_M hown hK hP hD hS 0 rfl rfl 0 (by decide) (hts _ uw_696) (fun _ h9 => h9) rfl (by decide +kernel) rfl rfl (Nat.le_of_ble_eq_true rfl) de_M_value_50 (fun H locs hP hD hS => ?_)
              have hP : va_P (dC, dI) CLS (wM ad T (sN t_2 0 2)) H := hP
              have hD : va_D A (wM ad T (sN t_2 0 2)) := hD
              refine lv_aload_n hx hb de_M_value_53 rfl (lv_at hl 0 rfl) ?_
              refine va_get (D := (dC, dI)) (ci := 9) (v := .int (nI 2)) (C := "StabilitySumsModel") (T := TB_M) (N := 33) hx hb hts ui_M hown hK hP 0 rfl rfl 0 (by decide) (hts _ uw_696) (fun _ h9 => h9) rfl de_M_value_54 ?_
              refine lv_if_le (tgt := 62) hx hb de_M_value_57 (by decide) (fun c_32 => ?_) (fun c_32 => ?_)
              · skip
                exact absurd c_32 (by decide)
              · skip
                refine lv_lconst (v := 0) hx hb de_M_value_60 (by decide) ?_
                have hfin : (sN t_2 0 2) = if okV a0 a1 then (if y_div a0 ∧ y_S 0 (y_pre t) = 0 then sN (y_pre t) 0 2 else y_rk a0 (y_v0 t)) else sN (y_pre t) 0 1 := by
                  rw [if_pos ⟨c_3, c_5, c_7, c_9⟩, if_pos ⟨c_11, (by rw [← et_2, ← hw_21]; exact c_22)⟩, et_2]
                rw [hfin] at hP hD
                subst hQ
                have hpost : (0 : Int64) = if okV a0 a1 then (if y_div a0 ∧ y_S 0 (y_pre t) = 0 then 0 else y_vv a0 a1 t) else 0 := by
                  rw [if_pos ⟨c_3, c_5, c_7, c_9⟩, if_pos ⟨c_11, (by rw [← et_2, ← hw_21]; exact c_22)⟩]
                exact W.lret (v := 0) hx hb hr (fun t9 ht hW => ⟨⟨0, (), rfl, hpost, by rw [ht]; exact hP, va_K.moved hW.alike hK, hD⟩, hS.F ht⟩) hS.2.2 de_M_value_61
        · skip
          refine lv_iconst (v := 1) hx hb de_M_value_24 (by decide) ?_
          refine lv_goto (tgt := 50) hx hb de_M_value_25 (by decide) ?_
          refine va_put (D := (dC, dI)) (ci := 9) (v := .int 1) (ty := .int) (C := "StabilitySumsModel") (T := TB_M) (N := 33) hx hb hts ui_M tt_M tk_M nm_M hown hK hP hD hS 0 rfl rfl 0 (by decide) (hts _ uw_696) (fun _ h9 => h9) rfl (by decide +kernel) rfl rfl (Nat.le_of_ble_eq_true rfl) de_M_value_50 (fun H locs hP hD hS => ?_)
          have hP : va_P (dC, dI) CLS (wM ad T (sN t_2 0 1)) H := hP
          have hD : va_D A (wM ad T (sN t_2 0 1)) := hD
          refine lv_aload_n hx hb de_M_value_53 rfl (lv_at hl 0 rfl) ?_
          refine va_get (D := (dC, dI)) (ci := 9) (v := .int (nI 1)) (C := "StabilitySumsModel") (T := TB_M) (N := 33) hx hb hts ui_M hown hK hP 0 rfl rfl 0 (by decide) (hts _ uw_696) (fun _ h9 => h9) rfl de_M_value_54 ?_
          refine lv_if_le (tgt := 62) hx hb de_M_value_57 (by decide) (fun c_33 => ?_) (fun c_33 => ?_)
          · skip
            exact absurd c_33 (by decide)
          · skip
            refine lv_lconst (v := 0) hx hb de_M_value_60 (by decide) ?_
            have hfin : (sN t_2 0 1) = if okV a0 a1 then (if y_div a0 ∧ y_S 0 (y_pre t) = 0 then sN (y_pre t) 0 2 else y_rk a0 (y_v0 t)) else sN (y_pre t) 0 1 := by
              rw [if_neg (fun h => c_9 h.2.2.2), et_2]
            rw [hfin] at hP hD
            subst hQ
            have hpost : (0 : Int64) = if okV a0 a1 then (if y_div a0 ∧ y_S 0 (y_pre t) = 0 then 0 else y_vv a0 a1 t) else 0 := by
              rw [if_neg (fun h => c_9 h.2.2.2)]
            exact W.lret (v := 0) hx hb hr (fun t9 ht hW => ⟨⟨0, (), rfl, hpost, by rw [ht]; exact hP, va_K.moved hW.alike hK, hD⟩, hS.F ht⟩) hS.2.2 de_M_value_61
