set_option maxHeartbeats 4000000 in
set_option maxRecDepth 100000 in
theorem mt_M_table0 (l : Launch) (dC : Nat → ClassId) (dI : Nat → Nat → Nat) (ad : Nat → Nat) (T : Nat → ClassId) (t : St) (a0 : Int64) (hI : IvM t) (sz : Nat) : Met l yn_M_table (.code yn_M_table cd_M_table 11 none :: UW) ({ frames := 0, cells := 0, slots := 0, locals := 0 } : Room) (va_Pc [.ref (ad 0), .long a0, .int 0] (Pw (dC, dI) CLS (TY T) (wM ad T t) sz)) (va_Qv (fun _ : Unit => True) (Bw (dC, dI) CLS (TY T) (fun _ : Unit => (wM ad T (y_tb 15 a0 t))) (va_A (wM ad T t) sz)) (va_A (wM ad T t) sz)) 0 0 (va_A (wM ad T t) sz) := by
  refine Met.ofW (cc := cd_M_table) (maxL := 11) (ret := none) (by decide) rfl ?_
  intro p e s m args below meth c s₁ B hml hv
  obtain ⟨rfl, hsz, hP, hK, hD0, hN⟩ := hv
  have hx := B.exec
  have hb := B.bytes
  have hr := B.returns
  have hts : ∀ w ∈ UW, w.before _ s = true := fun w h => atoms_spec (ws := .code yn_M_table cd_M_table 11 none :: UW) B.pre w (List.mem_cons_of_mem _ h)
  have hown : s.vm.findClass "StabilitySumsModel" = some m.cls := findClass_of_methodNamed B.named
  have hlocks := B.notSynchronized
  subst hsz
  have hD := hD0.self (sz := s.heap.size)
  generalize hAe : va_A (wM ad T t) s.heap.size = A at hD ⊢
  have hA : ∀ q : Nat, s.heap.size ≤ q → A q := fun q h => by rw [← hAe]; exact Or.inr h
  have hS : va_S A s.heap s.heap [] := va_S.rf
  have hl := lv_entry ([.ref (ad 0), .long a0, .int 0]) (n := 11) (Nat.le_of_ble_eq_true rfl)
  rw [lg_entry_eq]
  generalize (lg_sl ([.ref (ad 0), .long a0, .int 0]) ++ List.replicate (11 - (lg_sl ([.ref (ad 0), .long a0, .int 0])).length) Slot.unset).toArray = ls at hl ⊢
  have hl : lv_has ls 11 [(0, .ref (ad 0)), (1, .long a0), (3, .int 0)] := hl
  generalize hQ : MQ below _ _ s 0 0 A = Q
  obtain ⟨hI1, hI2, hI3, hI4, hI5⟩ := hI
  have join_30 : ∀ (i : Nat), (y_k t a0 = i) → (i ≤ t.2.2.2 3) → ∀ (H : Heap) (locs : List Loc) (ls : Array Slot), va_P (dC, dI) CLS (wM ad T t) H → va_D A (wM ad T t) → va_S A s.heap H locs → lv_has ls 11 [(0, .ref (ad 0)), (1, .long a0), (3, .int 0), (4, .int (nI i))] → W p l e (headSpec (.code yn_M_table cd_M_table 11 none :: UW) ({ frames := 0, cells := 0, slots := 0, locals := 0 } : Room)).room s m ([.ref (ad 0), .long a0, .int 0] : List Value).toArray below meth c H locs 0 0 Q (F0 m 30 ls []) := by
    intro i hi9 hi8 H locs ls hP hD hS hl
    by_cases h0 : t.2.2.2 3 = 0
    · skip
      refine lv_iload hx hb de_M_table_30 (lv_at hl 3 rfl) ?_
      refine lv_if_ne (tgt := 39) hx hb de_M_table_32 (by decide) (fun c_1 => ?_) (fun c_1 => ?_)
      · skip
        have c_1 : ¬ i = 0 := fun z => c_1 ((nz0 (by omega)).mpr z)
        refine lv_iload hx hb de_M_table_39 (lv_at hl 3 rfl) ?_
        refine lv_iconst (v := 1) hx hb de_M_table_41 (by decide) ?_
        refine lv_isub hx hb de_M_table_42 ?_
        refine lv_topi (fun v_2 ev_2 => ?_)
        have ev_2 : v_2 = (nI (i - 1)) := ev_2.trans (pk_sub (a := i) (b := 1) (by omega))
        subst ev_2
        refine lv_istore (lv' := [(5, .int (nI (i - 1))), (0, .ref (ad 0)), (1, .long a0), (3, .int 0), (4, .int (nI i))]) hx hb de_M_table_43 hl (by decide) rfl (fun ls hl => ?_)
        refine lv_iload hx hb de_M_table_45 (lv_at hl 4 rfl) ?_
        refine lv_aload_n hx hb de_M_table_47 rfl (lv_at hl 1 rfl) ?_
        refine va_get (D := (dC, dI)) (ci := 9) (v := .int (nI (t.2.2.2 3))) (C := "StabilitySumsModel") (T := TB_M) (N := 33) hx hb hts ui_M hown hK hP 0 rfl rfl 16 (by decide) (hts _ uw_712) (fun _ h9 => h9) rfl de_M_table_48 ?_
        refine lv_icmp_ne (tgt := 63) hx hb de_M_table_51 (by decide) (fun c_3 => ?_) (fun c_3 => ?_)
        · skip
          have c_3 : ¬ (i = (t.2.2.2 3)) := fun z => c_3 ((nI_eq (a := i) (b := t.2.2.2 3) (by omega) (by omega)).mpr z)
          refine lv_iload hx hb de_M_table_63 (lv_at hl 4 rfl) ?_
          refine lv_istore (lv' := [(6, .int (nI i)), (5, .int (nI (i - 1))), (0, .ref (ad 0)), (1, .long a0), (3, .int 0), (4, .int (nI i))]) hx hb de_M_table_65 hl (by decide) rfl (fun ls hl => ?_)
          refine lv_aload_n hx hb de_M_table_67 rfl (lv_at hl 2 rfl) ?_
          refine lv_lconst (v := 0) hx hb de_M_table_68 (by decide) ?_
          refine va_put (D := (dC, dI)) (ci := 9) (v := .long 0) (ty := .long) (C := "StabilitySumsModel") (T := TB_M) (N := 33) hx hb hts ui_M tt_M tk_M nm_M hown hK hP hD hS 0 rfl rfl 31 (by decide) (hts _ uw_727) (fun _ h9 => h9) rfl (by decide +kernel) rfl rfl (Nat.le_of_ble_eq_true rfl) de_M_table_69 (fun H locs hP hD hS => ?_)
          have hP : va_P (dC, dI) CLS (wM ad T (sF t 2 0)) H := hP
          have hD : va_D A (wM ad T (sF t 2 0)) := hD
          refine lv_aload_n hx hb de_M_table_72 rfl (lv_at hl 2 rfl) ?_
          refine lv_lconst (v := 1) hx hb de_M_table_73 (by decide) ?_
          refine va_put (D := (dC, dI)) (ci := 9) (v := .long 1) (ty := .long) (C := "StabilitySumsModel") (T := TB_M) (N := 33) hx hb hts ui_M tt_M tk_M nm_M hown hK hP hD hS 0 rfl rfl 32 (by decide) (hts _ uw_728) (fun _ h9 => h9) rfl (by decide +kernel) rfl rfl (Nat.le_of_ble_eq_true rfl) de_M_table_74 (fun H locs hP hD hS => ?_)
          have hP : va_P (dC, dI) CLS (wM ad T (sF (sF t 2 0) 3 1)) H := hP
          have hD : va_D A (wM ad T (sF (sF t 2 0) 3 1)) := hD
          refine lv_aload_n hx hb de_M_table_77 rfl (lv_at hl 2 rfl) ?_
          refine va_get (D := (dC, dI)) (ci := 9) (v := .int (nI (t.2.2.2 3))) (C := "StabilitySumsModel") (T := TB_M) (N := 33) hx hb hts ui_M hown hK hP 0 rfl rfl 16 (by decide) (hts _ uw_712) (fun _ h9 => h9) rfl de_M_table_78 ?_
          refine lv_if_ne (tgt := 85) hx hb de_M_table_81 (by decide) (fun c_4 => ?_) (fun c_4 => ?_)
          · skip
            have c_4 : ¬ (t.2.2.2 3) = 0 := fun z => c_4 ((nz0 (by omega)).mpr z)
            exact absurd h0 c_4
          · skip
            have c_4 : (t.2.2.2 3) = 0 := (nz0 (by omega)).mp c_4
            have hfin : (sF (sF t 2 0) 3 1) = y_tb 15 a0 t := by
              have hU9 : y_tU 15 t a0 = 0 := by
                clear hP hD hS hl hK hN hts hA hown hml hx hb hr hlocks hQ hAe
                unfold y_tU; simp only [y_one, y_two, hi9]; grind
              have hD9 : y_tD t a0 = 1 := by
                clear hP hD hS hl hK hN hts hA hown hml hx hb hr hlocks hQ hAe
                unfold y_tD; simp only [y_one, y_two, hi9]; grind
              unfold y_tb; rw [hU9, hD9]; first | done | simp only [sF_idem, sF_c32]
            rw [hfin] at hP hD
            subst hQ
            exact W.vret hx hb hr (fun t9 ht hW => ⟨⟨(), rfl, trivial, by rw [ht]; exact hP, va_K.moved hW.alike hK, hD⟩, hS.F ht⟩) hS.2.2 de_M_table_84
        · skip
          have c_3 : i = (t.2.2.2 3) := (nI_eq (a := i) (b := t.2.2.2 3) (by omega) (by omega)).mp c_3
          refine lv_aload_n hx hb de_M_table_54 rfl (lv_at hl 1 rfl) ?_
          refine va_get (D := (dC, dI)) (ci := 9) (v := .int (nI (t.2.2.2 3))) (C := "StabilitySumsModel") (T := TB_M) (N := 33) hx hb hts ui_M hown hK hP 0 rfl rfl 16 (by decide) (hts _ uw_712) (fun _ h9 => h9) rfl de_M_table_55 ?_
          refine lv_iconst (v := 1) hx hb de_M_table_58 (by decide) ?_
          refine lv_isub hx hb de_M_table_59 ?_
          refine lv_goto (tgt := 65) hx hb de_M_table_60 (by decide) ?_
          refine lv_istore (lv' := [(6, .int ((nI (t.2.2.2 3)) - 1)), (5, .int (nI (i - 1))), (0, .ref (ad 0)), (1, .long a0), (3, .int 0), (4, .int (nI i))]) hx hb de_M_table_65 hl (by decide) rfl (fun ls hl => ?_)
          refine lv_aload_n hx hb de_M_table_67 rfl (lv_at hl 2 rfl) ?_
          refine lv_lconst (v := 0) hx hb de_M_table_68 (by decide) ?_
          refine va_put (D := (dC, dI)) (ci := 9) (v := .long 0) (ty := .long) (C := "StabilitySumsModel") (T := TB_M) (N := 33) hx hb hts ui_M tt_M tk_M nm_M hown hK hP hD hS 0 rfl rfl 31 (by decide) (hts _ uw_727) (fun _ h9 => h9) rfl (by decide +kernel) rfl rfl (Nat.le_of_ble_eq_true rfl) de_M_table_69 (fun H locs hP hD hS => ?_)
          have hP : va_P (dC, dI) CLS (wM ad T (sF t 2 0)) H := hP
          have hD : va_D A (wM ad T (sF t 2 0)) := hD
          refine lv_aload_n hx hb de_M_table_72 rfl (lv_at hl 2 rfl) ?_
          refine lv_lconst (v := 1) hx hb de_M_table_73 (by decide) ?_
          refine va_put (D := (dC, dI)) (ci := 9) (v := .long 1) (ty := .long) (C := "StabilitySumsModel") (T := TB_M) (N := 33) hx hb hts ui_M tt_M tk_M nm_M hown hK hP hD hS 0 rfl rfl 32 (by decide) (hts _ uw_728) (fun _ h9 => h9) rfl (by decide +kernel) rfl rfl (Nat.le_of_ble_eq_true rfl) de_M_table_74 (fun H locs hP hD hS => ?_)
          have hP : va_P (dC, dI) CLS (wM ad T (sF (sF t 2 0) 3 1)) H := hP
          have hD : va_D A (wM ad T (sF (sF t 2 0) 3 1)) := hD
          refine lv_aload_n hx hb de_M_table_77 rfl (lv_at hl 2 rfl) ?_
          refine va_get (D := (dC, dI)) (ci := 9) (v := .int (nI (t.2.2.2 3))) (C := "StabilitySumsModel") (T := TB_M) (N := 33) hx hb hts ui_M hown hK hP 0 rfl rfl 16 (by decide) (hts _ uw_712) (fun _ h9 => h9) rfl de_M_table_78 ?_
          refine lv_if_ne (tgt := 85) hx hb de_M_table_81 (by decide) (fun c_5 => ?_) (fun c_5 => ?_)
          · skip
            have c_5 : ¬ (t.2.2.2 3) = 0 := fun z => c_5 ((nz0 (by omega)).mpr z)
            exact absurd h0 c_5
          · skip
            have c_5 : (t.2.2.2 3) = 0 := (nz0 (by omega)).mp c_5
            have hfin : (sF (sF t 2 0) 3 1) = y_tb 15 a0 t := by
              have hU9 : y_tU 15 t a0 = 0 := by
                clear hP hD hS hl hK hN hts hA hown hml hx hb hr hlocks hQ hAe
                unfold y_tU; simp only [y_one, y_two, hi9]; grind
              have hD9 : y_tD t a0 = 1 := by
                clear hP hD hS hl hK hN hts hA hown hml hx hb hr hlocks hQ hAe
                unfold y_tD; simp only [y_one, y_two, hi9]; grind
              unfold y_tb; rw [hU9, hD9]; first | done | simp only [sF_idem, sF_c32]
            rw [hfin] at hP hD
            subst hQ
            exact W.vret hx hb hr (fun t9 ht hW => ⟨⟨(), rfl, trivial, by rw [ht]; exact hP, va_K.moved hW.alike hK, hD⟩, hS.F ht⟩) hS.2.2 de_M_table_84
      · skip
        have c_1 : i = 0 := (nz0 (by omega)).mp c_1
        refine lv_iconst (v := 0) hx hb de_M_table_35 (by decide) ?_
        refine lv_goto (tgt := 43) hx hb de_M_table_36 (by decide) ?_
        refine lv_istore (lv' := [(5, .int 0), (0, .ref (ad 0)), (1, .long a0), (3, .int 0), (4, .int (nI i))]) hx hb de_M_table_43 hl (by decide) rfl (fun ls hl => ?_)
        refine lv_iload hx hb de_M_table_45 (lv_at hl 4 rfl) ?_
        refine lv_aload_n hx hb de_M_table_47 rfl (lv_at hl 1 rfl) ?_
        refine va_get (D := (dC, dI)) (ci := 9) (v := .int (nI (t.2.2.2 3))) (C := "StabilitySumsModel") (T := TB_M) (N := 33) hx hb hts ui_M hown hK hP 0 rfl rfl 16 (by decide) (hts _ uw_712) (fun _ h9 => h9) rfl de_M_table_48 ?_
        refine lv_icmp_ne (tgt := 63) hx hb de_M_table_51 (by decide) (fun c_6 => ?_) (fun c_6 => ?_)
        · skip
          have c_6 : ¬ (i = (t.2.2.2 3)) := fun z => c_6 ((nI_eq (a := i) (b := t.2.2.2 3) (by omega) (by omega)).mpr z)
          refine lv_iload hx hb de_M_table_63 (lv_at hl 4 rfl) ?_
          refine lv_istore (lv' := [(6, .int (nI i)), (5, .int 0), (0, .ref (ad 0)), (1, .long a0), (3, .int 0), (4, .int (nI i))]) hx hb de_M_table_65 hl (by decide) rfl (fun ls hl => ?_)
          refine lv_aload_n hx hb de_M_table_67 rfl (lv_at hl 2 rfl) ?_
          refine lv_lconst (v := 0) hx hb de_M_table_68 (by decide) ?_
          refine va_put (D := (dC, dI)) (ci := 9) (v := .long 0) (ty := .long) (C := "StabilitySumsModel") (T := TB_M) (N := 33) hx hb hts ui_M tt_M tk_M nm_M hown hK hP hD hS 0 rfl rfl 31 (by decide) (hts _ uw_727) (fun _ h9 => h9) rfl (by decide +kernel) rfl rfl (Nat.le_of_ble_eq_true rfl) de_M_table_69 (fun H locs hP hD hS => ?_)
          have hP : va_P (dC, dI) CLS (wM ad T (sF t 2 0)) H := hP
          have hD : va_D A (wM ad T (sF t 2 0)) := hD
          refine lv_aload_n hx hb de_M_table_72 rfl (lv_at hl 2 rfl) ?_
          refine lv_lconst (v := 1) hx hb de_M_table_73 (by decide) ?_
          refine va_put (D := (dC, dI)) (ci := 9) (v := .long 1) (ty := .long) (C := "StabilitySumsModel") (T := TB_M) (N := 33) hx hb hts ui_M tt_M tk_M nm_M hown hK hP hD hS 0 rfl rfl 32 (by decide) (hts _ uw_728) (fun _ h9 => h9) rfl (by decide +kernel) rfl rfl (Nat.le_of_ble_eq_true rfl) de_M_table_74 (fun H locs hP hD hS => ?_)
          have hP : va_P (dC, dI) CLS (wM ad T (sF (sF t 2 0) 3 1)) H := hP
          have hD : va_D A (wM ad T (sF (sF t 2 0) 3 1)) := hD
          refine lv_aload_n hx hb de_M_table_77 rfl (lv_at hl 2 rfl) ?_
          refine va_get (D := (dC, dI)) (ci := 9) (v := .int (nI (t.2.2.2 3))) (C := "StabilitySumsModel") (T := TB_M) (N := 33) hx hb hts ui_M hown hK hP 0 rfl rfl 16 (by decide) (hts _ uw_712) (fun _ h9 => h9) rfl de_M_table_78 ?_
          refine lv_if_ne (tgt := 85) hx hb de_M_table_81 (by decide) (fun c_7 => ?_) (fun c_7 => ?_)
          · skip
            have c_7 : ¬ (t.2.2.2 3) = 0 := fun z => c_7 ((nz0 (by omega)).mpr z)
            exact absurd h0 c_7
          · skip
            have c_7 : (t.2.2.2 3) = 0 := (nz0 (by omega)).mp c_7
            have hfin : (sF (sF t 2 0) 3 1) = y_tb 15 a0 t := by
              have hU9 : y_tU 15 t a0 = 0 := by
                clear hP hD hS hl hK hN hts hA hown hml hx hb hr hlocks hQ hAe
                unfold y_tU; simp only [y_one, y_two, hi9]; grind
              have hD9 : y_tD t a0 = 1 := by
                clear hP hD hS hl hK hN hts hA hown hml hx hb hr hlocks hQ hAe
                unfold y_tD; simp only [y_one, y_two, hi9]; grind
              unfold y_tb; rw [hU9, hD9]; first | done | simp only [sF_idem, sF_c32]
            rw [hfin] at hP hD
            subst hQ
            exact W.vret hx hb hr (fun t9 ht hW => ⟨⟨(), rfl, trivial, by rw [ht]; exact hP, va_K.moved hW.alike hK, hD⟩, hS.F ht⟩) hS.2.2 de_M_table_84
        · skip
          have c_6 : i = (t.2.2.2 3) := (nI_eq (a := i) (b := t.2.2.2 3) (by omega) (by omega)).mp c_6
          refine lv_aload_n hx hb de_M_table_54 rfl (lv_at hl 1 rfl) ?_
          refine va_get (D := (dC, dI)) (ci := 9) (v := .int (nI (t.2.2.2 3))) (C := "StabilitySumsModel") (T := TB_M) (N := 33) hx hb hts ui_M hown hK hP 0 rfl rfl 16 (by decide) (hts _ uw_712) (fun _ h9 => h9) rfl de_M_table_55 ?_
          refine lv_iconst (v := 1) hx hb de_M_table_58 (by decide) ?_
          refine lv_isub hx hb de_M_table_59 ?_
          refine lv_goto (tgt := 65) hx hb de_M_table_60 (by decide) ?_
          refine lv_istore (lv' := [(6, .int ((nI (t.2.2.2 3)) - 1)), (5, .int 0), (0, .ref (ad 0)), (1, .long a0), (3, .int 0), (4, .int (nI i))]) hx hb de_M_table_65 hl (by decide) rfl (fun ls hl => ?_)
          refine lv_aload_n hx hb de_M_table_67 rfl (lv_at hl 2 rfl) ?_
          refine lv_lconst (v := 0) hx hb de_M_table_68 (by decide) ?_
          refine va_put (D := (dC, dI)) (ci := 9) (v := .long 0) (ty := .long) (C := "StabilitySumsModel") (T := TB_M) (N := 33) hx hb hts ui_M tt_M tk_M nm_M hown hK hP hD hS 0 rfl rfl 31 (by decide) (hts _ uw_727) (fun _ h9 => h9) rfl (by decide +kernel) rfl rfl (Nat.le_of_ble_eq_true rfl) de_M_table_69 (fun H locs hP hD hS => ?_)
          have hP : va_P (dC, dI) CLS (wM ad T (sF t 2 0)) H := hP
          have hD : va_D A (wM ad T (sF t 2 0)) := hD
          refine lv_aload_n hx hb de_M_table_72 rfl (lv_at hl 2 rfl) ?_
          refine lv_lconst (v := 1) hx hb de_M_table_73 (by decide) ?_
          refine va_put (D := (dC, dI)) (ci := 9) (v := .long 1) (ty := .long) (C := "StabilitySumsModel") (T := TB_M) (N := 33) hx hb hts ui_M tt_M tk_M nm_M hown hK hP hD hS 0 rfl rfl 32 (by decide) (hts _ uw_728) (fun _ h9 => h9) rfl (by decide +kernel) rfl rfl (Nat.le_of_ble_eq_true rfl) de_M_table_74 (fun H locs hP hD hS => ?_)
          have hP : va_P (dC, dI) CLS (wM ad T (sF (sF t 2 0) 3 1)) H := hP
          have hD : va_D A (wM ad T (sF (sF t 2 0) 3 1)) := hD
          refine lv_aload_n hx hb de_M_table_77 rfl (lv_at hl 2 rfl) ?_
          refine va_get (D := (dC, dI)) (ci := 9) (v := .int (nI (t.2.2.2 3))) (C := "StabilitySumsModel") (T := TB_M) (N := 33) hx hb hts ui_M hown hK hP 0 rfl rfl 16 (by decide) (hts _ uw_712) (fun _ h9 => h9) rfl de_M_table_78 ?_
          refine lv_if_ne (tgt := 85) hx hb de_M_table_81 (by decide) (fun c_8 => ?_) (fun c_8 => ?_)
          · skip
            have c_8 : ¬ (t.2.2.2 3) = 0 := fun z => c_8 ((nz0 (by omega)).mpr z)
            exact absurd h0 c_8
          · skip
            have c_8 : (t.2.2.2 3) = 0 := (nz0 (by omega)).mp c_8
            have hfin : (sF (sF t 2 0) 3 1) = y_tb 15 a0 t := by
              have hU9 : y_tU 15 t a0 = 0 := by
                clear hP hD hS hl hK hN hts hA hown hml hx hb hr hlocks hQ hAe
                unfold y_tU; simp only [y_one, y_two, hi9]; grind
              have hD9 : y_tD t a0 = 1 := by
                clear hP hD hS hl hK hN hts hA hown hml hx hb hr hlocks hQ hAe
                unfold y_tD; simp only [y_one, y_two, hi9]; grind
              unfold y_tb; rw [hU9, hD9]; first | done | simp only [sF_idem, sF_c32]
            rw [hfin] at hP hD
            subst hQ
            exact W.vret hx hb hr (fun t9 ht hW => ⟨⟨(), rfl, trivial, by rw [ht]; exact hP, va_K.moved hW.alike hK, hD⟩, hS.F ht⟩) hS.2.2 de_M_table_84
    · skip
      refine lv_iload hx hb de_M_table_30 (lv_at hl 3 rfl) ?_
      refine lv_if_ne (tgt := 39) hx hb de_M_table_32 (by decide) (fun c_9 => ?_) (fun c_9 => ?_)
      · skip
        have c_9 : ¬ i = 0 := fun z => c_9 ((nz0 (by omega)).mpr z)
        refine lv_iload hx hb de_M_table_39 (lv_at hl 3 rfl) ?_
        refine lv_iconst (v := 1) hx hb de_M_table_41 (by decide) ?_
        refine lv_isub hx hb de_M_table_42 ?_
        refine lv_topi (fun v_10 ev_10 => ?_)
        have ev_10 : v_10 = (nI (i - 1)) := ev_10.trans (pk_sub (a := i) (b := 1) (by omega))
        subst ev_10
        refine lv_istore (lv' := [(5, .int (nI (i - 1))), (0, .ref (ad 0)), (1, .long a0), (3, .int 0), (4, .int (nI i))]) hx hb de_M_table_43 hl (by decide) rfl (fun ls hl => ?_)
        refine lv_iload hx hb de_M_table_45 (lv_at hl 4 rfl) ?_
        refine lv_aload_n hx hb de_M_table_47 rfl (lv_at hl 1 rfl) ?_
        refine va_get (D := (dC, dI)) (ci := 9) (v := .int (nI (t.2.2.2 3))) (C := "StabilitySumsModel") (T := TB_M) (N := 33) hx hb hts ui_M hown hK hP 0 rfl rfl 16 (by decide) (hts _ uw_712) (fun _ h9 => h9) rfl de_M_table_48 ?_
        refine lv_icmp_ne (tgt := 63) hx hb de_M_table_51 (by decide) (fun c_11 => ?_) (fun c_11 => ?_)
        · skip
          have c_11 : ¬ (i = (t.2.2.2 3)) := fun z => c_11 ((nI_eq (a := i) (b := t.2.2.2 3) (by omega) (by omega)).mpr z)
          refine lv_iload hx hb de_M_table_63 (lv_at hl 4 rfl) ?_
          refine lv_istore (lv' := [(6, .int (nI i)), (5, .int (nI (i - 1))), (0, .ref (ad 0)), (1, .long a0), (3, .int 0), (4, .int (nI i))]) hx hb de_M_table_65 hl (by decide) rfl (fun ls hl => ?_)
          refine lv_aload_n hx hb de_M_table_67 rfl (lv_at hl 2 rfl) ?_
          refine lv_lconst (v := 0) hx hb de_M_table_68 (by decide) ?_
          refine va_put (D := (dC, dI)) (ci := 9) (v := .long 0) (ty := .long) (C := "StabilitySumsModel") (T := TB_M) (N := 33) hx hb hts ui_M tt_M tk_M nm_M hown hK hP hD hS 0 rfl rfl 31 (by decide) (hts _ uw_727) (fun _ h9 => h9) rfl (by decide +kernel) rfl rfl (Nat.le_of_ble_eq_true rfl) de_M_table_69 (fun H locs hP hD hS => ?_)
          have hP : va_P (dC, dI) CLS (wM ad T (sF t 2 0)) H := hP
          have hD : va_D A (wM ad T (sF t 2 0)) := hD
          refine lv_aload_n hx hb de_M_table_72 rfl (lv_at hl 2 rfl) ?_
          refine lv_lconst (v := 1) hx hb de_M_table_73 (by decide) ?_
          refine va_put (D := (dC, dI)) (ci := 9) (v := .long 1) (ty := .long) (C := "StabilitySumsModel") (T := TB_M) (N := 33) hx hb hts ui_M tt_M tk_M nm_M hown hK hP hD hS 0 rfl rfl 32 (by decide) (hts _ uw_728) (fun _ h9 => h9) rfl (by decide +kernel) rfl rfl (Nat.le_of_ble_eq_true rfl) de_M_table_74 (fun H locs hP hD hS => ?_)
          have hP : va_P (dC, dI) CLS (wM ad T (sF (sF t 2 0) 3 1)) H := hP
          have hD : va_D A (wM ad T (sF (sF t 2 0) 3 1)) := hD
          refine lv_aload_n hx hb de_M_table_77 rfl (lv_at hl 2 rfl) ?_
          refine va_get (D := (dC, dI)) (ci := 9) (v := .int (nI (t.2.2.2 3))) (C := "StabilitySumsModel") (T := TB_M) (N := 33) hx hb hts ui_M hown hK hP 0 rfl rfl 16 (by decide) (hts _ uw_712) (fun _ h9 => h9) rfl de_M_table_78 ?_
          refine lv_if_ne (tgt := 85) hx hb de_M_table_81 (by decide) (fun c_12 => ?_) (fun c_12 => ?_)
          · skip
            have c_12 : ¬ (t.2.2.2 3) = 0 := fun z => c_12 ((nz0 (by omega)).mpr z)
            refine lv_iload_n hx hb de_M_table_85 rfl (lv_at hl 4 rfl) ?_
            refine lv_if_eq (tgt := 99) hx hb de_M_table_86 (by decide) (fun c_13 => ?_) (fun c_13 => ?_)
            · skip
              refine lv_aload_n hx hb de_M_table_99 rfl (lv_at hl 2 rfl) ?_
              refine va_get (D := (dC, dI)) (ci := 9) (v := .ref (ad 16)) (C := "StabilitySumsModel") (T := TB_M) (N := 33) hx hb hts ui_M hown hK hP 0 rfl rfl 19 (by decide) (hts _ uw_715) (fun _ h9 => h9) rfl de_M_table_100 ?_
              refine lv_iload hx hb de_M_table_103 (lv_at hl 1 rfl) ?_
              refine rw_lald (f := t.1 15) (j := (i - 1)) hx hb hK hP 16 0 rfl rfl (by omega) (by decide) de_M_table_105 ?_
              refine lv_lstore (lv' := [(7, .long (t.1 15 (i - 1))), (6, .int (nI i)), (5, .int (nI (i - 1))), (0, .ref (ad 0)), (1, .long a0), (3, .int 0), (4, .int (nI i))]) hx hb de_M_table_106 hl (by decide) rfl (fun ls hl => ?_)
              refine lv_iload_n hx hb de_M_table_108 rfl (lv_at hl 5 rfl) ?_
              refine lv_if_eq (tgt := 122) hx hb de_M_table_109 (by decide) (fun c_14 => ?_) (fun c_14 => ?_)
              · skip
                refine lv_aload_n hx hb de_M_table_122 rfl (lv_at hl 3 rfl) ?_
                refine va_get (D := (dC, dI)) (ci := 9) (v := .ref (ad 16)) (C := "StabilitySumsModel") (T := TB_M) (N := 33) hx hb hts ui_M hown hK hP 0 rfl rfl 19 (by decide) (hts _ uw_715) (fun _ h9 => h9) rfl de_M_table_123 ?_
                refine lv_iload hx hb de_M_table_126 (lv_at hl 1 rfl) ?_
                refine rw_lald (f := t.1 15) (j := i) hx hb hK hP 16 0 rfl rfl (by omega) (by decide) de_M_table_128 ?_
                refine lv_lstore (lv' := [(9, .long (t.1 15 i)), (7, .long (t.1 15 (i - 1))), (6, .int (nI i)), (5, .int (nI (i - 1))), (0, .ref (ad 0)), (1, .long a0), (3, .int 0), (4, .int (nI i))]) hx hb de_M_table_129 hl (by decide) rfl (fun ls hl => ?_)
                refine lv_aload_n hx hb de_M_table_131 rfl (lv_at hl 4 rfl) ?_
                refine lv_lload hx hb de_M_table_132 (lv_at hl 1 rfl) ?_
                refine va_put (D := (dC, dI)) (ci := 9) (v := .long (t.1 15 (i - 1))) (ty := .long) (C := "StabilitySumsModel") (T := TB_M) (N := 33) hx hb hts ui_M tt_M tk_M nm_M hown hK hP hD hS 0 rfl rfl 31 (by decide) (hts _ uw_727) (fun _ h9 => h9) rfl (by decide +kernel) rfl rfl (Nat.le_of_ble_eq_true rfl) de_M_table_134 (fun H locs hP hD hS => ?_)
                have hP : va_P (dC, dI) CLS (wM ad T (sF (sF (sF t 2 0) 3 1) 2 (t.1 15 (i - 1)))) H := hP
                have hD : va_D A (wM ad T (sF (sF (sF t 2 0) 3 1) 2 (t.1 15 (i - 1)))) := hD
                refine lv_iload hx hb de_M_table_137 (lv_at hl 3 rfl) ?_
                refine lv_iload hx hb de_M_table_139 (lv_at hl 2 rfl) ?_
                refine lv_icmp_eq (tgt := 190) hx hb de_M_table_141 (by decide) (fun c_15 => ?_) (fun c_15 => ?_)
                · skip
                  have c_15 : (i - 1) = i := (nI_eq (a := i - 1) (b := i) (by omega) (by omega)).mp c_15
                  have hfin : (sF (sF (sF t 2 0) 3 1) 2 (t.1 15 (i - 1))) = y_tb 15 a0 t := by
                    have hU9 : y_tU 15 t a0 = (t.1 15 (i - 1)) := by
                      clear hP hD hS hl hK hN hts hA hown hml hx hb hr hlocks hQ hAe
                      unfold y_tU; simp only [y_one, y_two, hi9]; grind
                    have hD9 : y_tD t a0 = 1 := by
                      clear hP hD hS hl hK hN hts hA hown hml hx hb hr hlocks hQ hAe
                      unfold y_tD; simp only [y_one, y_two, hi9]; grind
                    unfold y_tb; rw [hU9, hD9]; first | done | simp only [sF_idem, sF_c32]
                  rw [hfin] at hP hD
                  subst hQ
                  exact W.vret hx hb hr (fun t9 ht hW => ⟨⟨(), rfl, trivial, by rw [ht]; exact hP, va_K.moved hW.alike hK, hD⟩, hS.F ht⟩) hS.2.2 de_M_table_190
                · skip
                  have c_15 : ¬ ((i - 1) = i) := fun z => c_15 ((nI_eq (a := i - 1) (b := i) (by omega) (by omega)).mpr z)
                  refine lv_aload_n hx hb de_M_table_144 rfl (lv_at hl 4 rfl) ?_
                  refine lv_aload_n hx hb de_M_table_145 rfl (lv_at hl 4 rfl) ?_
                  refine va_get (D := (dC, dI)) (ci := 9) (v := .ref (ad 14)) (C := "StabilitySumsModel") (T := TB_M) (N := 33) hx hb hts ui_M hown hK hP 0 rfl rfl 17 (by decide) (hts _ uw_713) (fun _ h9 => h9) rfl de_M_table_146 ?_
                  refine lv_iload hx hb de_M_table_149 (lv_at hl 2 rfl) ?_
                  refine rw_lald (f := t.1 13) (j := i) hx hb hK hP 14 0 rfl rfl (by omega) (by decide) de_M_table_151 ?_
                  refine lv_aload_n hx hb de_M_table_152 rfl (lv_at hl 4 rfl) ?_
                  refine va_get (D := (dC, dI)) (ci := 9) (v := .ref (ad 14)) (C := "StabilitySumsModel") (T := TB_M) (N := 33) hx hb hts ui_M hown hK hP 0 rfl rfl 17 (by decide) (hts _ uw_713) (fun _ h9 => h9) rfl de_M_table_153 ?_
                  refine lv_iload hx hb de_M_table_156 (lv_at hl 3 rfl) ?_
                  refine rw_lald (f := t.1 13) (j := (i - 1)) hx hb hK hP 14 0 rfl rfl (by omega) (by decide) de_M_table_158 ?_
                  refine lv_lsub hx hb de_M_table_159 ?_
                  refine lv_topl (fun v_16 ev_16 => ?_)
                  have ev_16 : v_16 = (t.1 13 i) - (t.1 13 (i - 1)) := ev_16
                  refine va_put (D := (dC, dI)) (ci := 9) (v := .long v_16) (ty := .long) (C := "StabilitySumsModel") (T := TB_M) (N := 33) hx hb hts ui_M tt_M tk_M nm_M hown hK hP hD hS 0 rfl rfl 32 (by decide) (hts _ uw_728) (fun _ h9 => h9) rfl (by decide +kernel) rfl rfl (Nat.le_of_ble_eq_true rfl) de_M_table_160 (fun H locs hP hD hS => ?_)
                  have hP : va_P (dC, dI) CLS (wM ad T (sF (sF (sF (sF t 2 0) 3 1) 2 (t.1 15 (i - 1))) 3 v_16)) H := hP
                  have hD : va_D A (wM ad T (sF (sF (sF (sF t 2 0) 3 1) 2 (t.1 15 (i - 1))) 3 v_16)) := hD
                  refine lv_aload_n hx hb de_M_table_163 rfl (lv_at hl 4 rfl) ?_
                  refine lv_lload hx hb de_M_table_164 (lv_at hl 1 rfl) ?_
                  refine lv_aload_n hx hb de_M_table_166 rfl (lv_at hl 4 rfl) ?_
                  refine va_get (D := (dC, dI)) (ci := 9) (v := .long v_16) (C := "StabilitySumsModel") (T := TB_M) (N := 33) hx hb hts ui_M hown hK hP 0 rfl rfl 32 (by decide) (hts _ uw_728) (fun _ h9 => h9) rfl de_M_table_167 ?_
                  refine lv_lmul hx hb de_M_table_170 ?_
                  refine lv_topl (fun v_17 ev_17 => ?_)
                  have ev_17 : v_17 = (t.1 15 (i - 1)) * v_16 := ev_17
                  refine lv_lload hx hb de_M_table_171 (lv_at hl 0 rfl) ?_
                  refine lv_lload hx hb de_M_table_173 (lv_at hl 1 rfl) ?_
                  refine lv_lsub hx hb de_M_table_175 ?_
                  refine lv_topl (fun v_18 ev_18 => ?_)
                  have ev_18 : v_18 = (t.1 15 i) - (t.1 15 (i - 1)) := ev_18
                  refine lv_lload_n hx hb de_M_table_176 rfl (lv_at hl 5 rfl) ?_
                  refine lv_aload_n hx hb de_M_table_177 rfl (lv_at hl 4 rfl) ?_
                  refine va_get (D := (dC, dI)) (ci := 9) (v := .ref (ad 14)) (C := "StabilitySumsModel") (T := TB_M) (N := 33) hx hb hts ui_M hown hK hP 0 rfl rfl 17 (by decide) (hts _ uw_713) (fun _ h9 => h9) rfl de_M_table_178 ?_
                  refine lv_iload hx hb de_M_table_181 (lv_at hl 3 rfl) ?_
                  refine rw_lald (f := t.1 13) (j := (i - 1)) hx hb hK hP 14 0 rfl rfl (by omega) (by decide) de_M_table_183 ?_
                  refine lv_lsub hx hb de_M_table_184 ?_
                  refine lv_topl (fun v_19 ev_19 => ?_)
                  have ev_19 : v_19 = a0 - (t.1 13 (i - 1)) := ev_19
                  refine lv_lmul hx hb de_M_table_185 ?_
                  refine lv_topl (fun v_20 ev_20 => ?_)
                  have ev_20 : v_20 = v_18 * v_19 := ev_20
                  refine lv_ladd hx hb de_M_table_186 ?_
                  refine lv_topl (fun v_21 ev_21 => ?_)
                  have ev_21 : v_21 = v_17 + v_20 := ev_21
                  refine va_put (D := (dC, dI)) (ci := 9) (v := .long v_21) (ty := .long) (C := "StabilitySumsModel") (T := TB_M) (N := 33) hx hb hts ui_M tt_M tk_M nm_M hown hK hP hD hS 0 rfl rfl 31 (by decide) (hts _ uw_727) (fun _ h9 => h9) rfl (by decide +kernel) rfl rfl (Nat.le_of_ble_eq_true rfl) de_M_table_187 (fun H locs hP hD hS => ?_)
                  have hP : va_P (dC, dI) CLS (wM ad T (sF (sF (sF (sF (sF t 2 0) 3 1) 2 (t.1 15 (i - 1))) 3 v_16) 2 v_21)) H := hP
                  have hD : va_D A (wM ad T (sF (sF (sF (sF (sF t 2 0) 3 1) 2 (t.1 15 (i - 1))) 3 v_16) 2 v_21)) := hD
                  have hfin : (sF (sF (sF (sF (sF t 2 0) 3 1) 2 (t.1 15 (i - 1))) 3 v_16) 2 v_21) = y_tb 15 a0 t := by
                    have hU9 : y_tU 15 t a0 = v_21 := by
                      clear hP hD hS hl hK hN hts hA hown hml hx hb hr hlocks hQ hAe
                      unfold y_tU; simp only [y_one, y_two, hi9]; grind
                    have hD9 : y_tD t a0 = v_16 := by
                      clear hP hD hS hl hK hN hts hA hown hml hx hb hr hlocks hQ hAe
                      unfold y_tD; simp only [y_one, y_two, hi9]; grind
                    unfold y_tb; rw [hU9, hD9]; first | done | simp only [sF_idem, sF_c32]
                  rw [hfin] at hP hD
                  subst hQ
                  exact W.vret hx hb hr (fun t9 ht hW => ⟨⟨(), rfl, trivial, by rw [ht]; exact hP, va_K.moved hW.alike hK, hD⟩, hS.F ht⟩) hS.2.2 de_M_table_190
              · skip
                exact absurd rfl c_14
            · skip
              refine lv_aload_n hx hb de_M_table_89 rfl (lv_at hl 2 rfl) ?_
              refine va_get (D := (dC, dI)) (ci := 9) (v := .ref (ad 15)) (C := "StabilitySumsModel") (T := TB_M) (N := 33) hx hb hts ui_M hown hK hP 0 rfl rfl 18 (by decide) (hts _ uw_714) (fun _ h9 => h9) rfl de_M_table_90 ?_
              refine lv_iload hx hb de_M_table_93 (lv_at hl 1 rfl) ?_
              refine rw_lald (f := t.1 14) (j := (i - 1)) hx hb hK hP 15 0 rfl rfl (by omega) (by decide) de_M_table_95 ?_
              refine lv_goto (tgt := 106) hx hb de_M_table_96 (by decide) ?_
              refine lv_lstore (lv' := [(7, .long (t.1 14 (i - 1))), (6, .int (nI i)), (5, .int (nI (i - 1))), (0, .ref (ad 0)), (1, .long a0), (3, .int 0), (4, .int (nI i))]) hx hb de_M_table_106 hl (by decide) rfl (fun ls hl => ?_)
              refine lv_iload_n hx hb de_M_table_108 rfl (lv_at hl 5 rfl) ?_
              refine lv_if_eq (tgt := 122) hx hb de_M_table_109 (by decide) (fun c_22 => ?_) (fun c_22 => ?_)
              · skip
                refine lv_aload_n hx hb de_M_table_122 rfl (lv_at hl 3 rfl) ?_
                refine va_get (D := (dC, dI)) (ci := 9) (v := .ref (ad 16)) (C := "StabilitySumsModel") (T := TB_M) (N := 33) hx hb hts ui_M hown hK hP 0 rfl rfl 19 (by decide) (hts _ uw_715) (fun _ h9 => h9) rfl de_M_table_123 ?_
                refine lv_iload hx hb de_M_table_126 (lv_at hl 1 rfl) ?_
                refine rw_lald (f := t.1 15) (j := i) hx hb hK hP 16 0 rfl rfl (by omega) (by decide) de_M_table_128 ?_
                refine lv_lstore (lv' := [(9, .long (t.1 15 i)), (7, .long (t.1 14 (i - 1))), (6, .int (nI i)), (5, .int (nI (i - 1))), (0, .ref (ad 0)), (1, .long a0), (3, .int 0), (4, .int (nI i))]) hx hb de_M_table_129 hl (by decide) rfl (fun ls hl => ?_)
                refine lv_aload_n hx hb de_M_table_131 rfl (lv_at hl 4 rfl) ?_
                refine lv_lload hx hb de_M_table_132 (lv_at hl 1 rfl) ?_
                refine va_put (D := (dC, dI)) (ci := 9) (v := .long (t.1 14 (i - 1))) (ty := .long) (C := "StabilitySumsModel") (T := TB_M) (N := 33) hx hb hts ui_M tt_M tk_M nm_M hown hK hP hD hS 0 rfl rfl 31 (by decide) (hts _ uw_727) (fun _ h9 => h9) rfl (by decide +kernel) rfl rfl (Nat.le_of_ble_eq_true rfl) de_M_table_134 (fun H locs hP hD hS => ?_)
                have hP : va_P (dC, dI) CLS (wM ad T (sF (sF (sF t 2 0) 3 1) 2 (t.1 14 (i - 1)))) H := hP
                have hD : va_D A (wM ad T (sF (sF (sF t 2 0) 3 1) 2 (t.1 14 (i - 1)))) := hD
                refine lv_iload hx hb de_M_table_137 (lv_at hl 3 rfl) ?_
                refine lv_iload hx hb de_M_table_139 (lv_at hl 2 rfl) ?_
                refine lv_icmp_eq (tgt := 190) hx hb de_M_table_141 (by decide) (fun c_23 => ?_) (fun c_23 => ?_)
                · skip
                  have c_23 : (i - 1) = i := (nI_eq (a := i - 1) (b := i) (by omega) (by omega)).mp c_23
                  have hfin : (sF (sF (sF t 2 0) 3 1) 2 (t.1 14 (i - 1))) = y_tb 15 a0 t := by
                    have hU9 : y_tU 15 t a0 = (t.1 14 (i - 1)) := by
                      clear hP hD hS hl hK hN hts hA hown hml hx hb hr hlocks hQ hAe
                      unfold y_tU; simp only [y_one, y_two, hi9]; grind
                    have hD9 : y_tD t a0 = 1 := by
                      clear hP hD hS hl hK hN hts hA hown hml hx hb hr hlocks hQ hAe
                      unfold y_tD; simp only [y_one, y_two, hi9]; grind
                    unfold y_tb; rw [hU9, hD9]; first | done | simp only [sF_idem, sF_c32]
                  rw [hfin] at hP hD
                  subst hQ
                  exact W.vret hx hb hr (fun t9 ht hW => ⟨⟨(), rfl, trivial, by rw [ht]; exact hP, va_K.moved hW.alike hK, hD⟩, hS.F ht⟩) hS.2.2 de_M_table_190
                · skip
                  have c_23 : ¬ ((i - 1) = i) := fun z => c_23 ((nI_eq (a := i - 1) (b := i) (by omega) (by omega)).mpr z)
                  refine lv_aload_n hx hb de_M_table_144 rfl (lv_at hl 4 rfl) ?_
                  refine lv_aload_n hx hb de_M_table_145 rfl (lv_at hl 4 rfl) ?_
                  refine va_get (D := (dC, dI)) (ci := 9) (v := .ref (ad 14)) (C := "StabilitySumsModel") (T := TB_M) (N := 33) hx hb hts ui_M hown hK hP 0 rfl rfl 17 (by decide) (hts _ uw_713) (fun _ h9 => h9) rfl de_M_table_146 ?_
                  refine lv_iload hx hb de_M_table_149 (lv_at hl 2 rfl) ?_
                  refine rw_lald (f := t.1 13) (j := i) hx hb hK hP 14 0 rfl rfl (by omega) (by decide) de_M_table_151 ?_
                  refine lv_aload_n hx hb de_M_table_152 rfl (lv_at hl 4 rfl) ?_
                  refine va_get (D := (dC, dI)) (ci := 9) (v := .ref (ad 14)) (C := "StabilitySumsModel") (T := TB_M) (N := 33) hx hb hts ui_M hown hK hP 0 rfl rfl 17 (by decide) (hts _ uw_713) (fun _ h9 => h9) rfl de_M_table_153 ?_
                  refine lv_iload hx hb de_M_table_156 (lv_at hl 3 rfl) ?_
                  refine rw_lald (f := t.1 13) (j := (i - 1)) hx hb hK hP 14 0 rfl rfl (by omega) (by decide) de_M_table_158 ?_
                  refine lv_lsub hx hb de_M_table_159 ?_
                  refine lv_topl (fun v_24 ev_24 => ?_)
                  have ev_24 : v_24 = (t.1 13 i) - (t.1 13 (i - 1)) := ev_24
                  refine va_put (D := (dC, dI)) (ci := 9) (v := .long v_24) (ty := .long) (C := "StabilitySumsModel") (T := TB_M) (N := 33) hx hb hts ui_M tt_M tk_M nm_M hown hK hP hD hS 0 rfl rfl 32 (by decide) (hts _ uw_728) (fun _ h9 => h9) rfl (by decide +kernel) rfl rfl (Nat.le_of_ble_eq_true rfl) de_M_table_160 (fun H locs hP hD hS => ?_)
                  have hP : va_P (dC, dI) CLS (wM ad T (sF (sF (sF (sF t 2 0) 3 1) 2 (t.1 14 (i - 1))) 3 v_24)) H := hP
                  have hD : va_D A (wM ad T (sF (sF (sF (sF t 2 0) 3 1) 2 (t.1 14 (i - 1))) 3 v_24)) := hD
                  refine lv_aload_n hx hb de_M_table_163 rfl (lv_at hl 4 rfl) ?_
                  refine lv_lload hx hb de_M_table_164 (lv_at hl 1 rfl) ?_
                  refine lv_aload_n hx hb de_M_table_166 rfl (lv_at hl 4 rfl) ?_
                  refine va_get (D := (dC, dI)) (ci := 9) (v := .long v_24) (C := "StabilitySumsModel") (T := TB_M) (N := 33) hx hb hts ui_M hown hK hP 0 rfl rfl 32 (by decide) (hts _ uw_728) (fun _ h9 => h9) rfl de_M_table_167 ?_
                  refine lv_lmul hx hb de_M_table_170 ?_
                  refine lv_topl (fun v_25 ev_25 => ?_)
                  have ev_25 : v_25 = (t.1 14 (i - 1)) * v_24 := ev_25
                  refine lv_lload hx hb de_M_table_171 (lv_at hl 0 rfl) ?_
                  refine lv_lload hx hb de_M_table_173 (lv_at hl 1 rfl) ?_
                  refine lv_lsub hx hb de_M_table_175 ?_
                  refine lv_topl (fun v_26 ev_26 => ?_)
                  have ev_26 : v_26 = (t.1 15 i) - (t.1 14 (i - 1)) := ev_26
                  refine lv_lload_n hx hb de_M_table_176 rfl (lv_at hl 5 rfl) ?_
                  refine lv_aload_n hx hb de_M_table_177 rfl (lv_at hl 4 rfl) ?_
                  refine va_get (D := (dC, dI)) (ci := 9) (v := .ref (ad 14)) (C := "StabilitySumsModel") (T := TB_M) (N := 33) hx hb hts ui_M hown hK hP 0 rfl rfl 17 (by decide) (hts _ uw_713) (fun _ h9 => h9) rfl de_M_table_178 ?_
                  refine lv_iload hx hb de_M_table_181 (lv_at hl 3 rfl) ?_
                  refine rw_lald (f := t.1 13) (j := (i - 1)) hx hb hK hP 14 0 rfl rfl (by omega) (by decide) de_M_table_183 ?_
                  refine lv_lsub hx hb de_M_table_184 ?_
                  refine lv_topl (fun v_27 ev_27 => ?_)
                  have ev_27 : v_27 = a0 - (t.1 13 (i - 1)) := ev_27
                  refine lv_lmul hx hb de_M_table_185 ?_
                  refine lv_topl (fun v_28 ev_28 => ?_)
                  have ev_28 : v_28 = v_26 * v_27 := ev_28
                  refine lv_ladd hx hb de_M_table_186 ?_
                  refine lv_topl (fun v_29 ev_29 => ?_)
                  have ev_29 : v_29 = v_25 + v_28 := ev_29
                  refine va_put (D := (dC, dI)) (ci := 9) (v := .long v_29) (ty := .long) (C := "StabilitySumsModel") (T := TB_M) (N := 33) hx hb hts ui_M tt_M tk_M nm_M hown hK hP hD hS 0 rfl rfl 31 (by decide) (hts _ uw_727) (fun _ h9 => h9) rfl (by decide +kernel) rfl rfl (Nat.le_of_ble_eq_true rfl) de_M_table_187 (fun H locs hP hD hS => ?_)
                  have hP : va_P (dC, dI) CLS (wM ad T (sF (sF (sF (sF (sF t 2 0) 3 1) 2 (t.1 14 (i - 1))) 3 v_24) 2 v_29)) H := hP
                  have hD : va_D A (wM ad T (sF (sF (sF (sF (sF t 2 0) 3 1) 2 (t.1 14 (i - 1))) 3 v_24) 2 v_29)) := hD
                  have hfin : (sF (sF (sF (sF (sF t 2 0) 3 1) 2 (t.1 14 (i - 1))) 3 v_24) 2 v_29) = y_tb 15 a0 t := by
                    have hU9 : y_tU 15 t a0 = v_29 := by
                      clear hP hD hS hl hK hN hts hA hown hml hx hb hr hlocks hQ hAe
                      unfold y_tU; simp only [y_one, y_two, hi9]; grind
                    have hD9 : y_tD t a0 = v_24 := by
                      clear hP hD hS hl hK hN hts hA hown hml hx hb hr hlocks hQ hAe
                      unfold y_tD; simp only [y_one, y_two, hi9]; grind
                    unfold y_tb; rw [hU9, hD9]; first | done | simp only [sF_idem, sF_c32]
                  rw [hfin] at hP hD
                  subst hQ
                  exact W.vret hx hb hr (fun t9 ht hW => ⟨⟨(), rfl, trivial, by rw [ht]; exact hP, va_K.moved hW.alike hK, hD⟩, hS.F ht⟩) hS.2.2 de_M_table_190
              · skip
                exact absurd rfl c_22
          · skip
            have c_12 : (t.2.2.2 3) = 0 := (nz0 (by omega)).mp c_12
            have hfin : (sF (sF t 2 0) 3 1) = y_tb 15 a0 t := by
              have hU9 : y_tU 15 t a0 = 0 := by
                clear hP hD hS hl hK hN hts hA hown hml hx hb hr hlocks hQ hAe
                unfold y_tU; simp only [y_one, y_two, hi9]; grind
              have hD9 : y_tD t a0 = 1 := by
                clear hP hD hS hl hK hN hts hA hown hml hx hb hr hlocks hQ hAe
                unfold y_tD; simp only [y_one, y_two, hi9]; grind
              unfold y_tb; rw [hU9, hD9]; first | done | simp only [sF_idem, sF_c32]
            rw [hfin] at hP hD
            subst hQ
            exact W.vret hx hb hr (fun t9 ht hW => ⟨⟨(), rfl, trivial, by rw [ht]; exact hP, va_K.moved hW.alike hK, hD⟩, hS.F ht⟩) hS.2.2 de_M_table_84
        · skip
          have c_11 : i = (t.2.2.2 3) := (nI_eq (a := i) (b := t.2.2.2 3) (by omega) (by omega)).mp c_11
          refine lv_aload_n hx hb de_M_table_54 rfl (lv_at hl 1 rfl) ?_
          refine va_get (D := (dC, dI)) (ci := 9) (v := .int (nI (t.2.2.2 3))) (C := "StabilitySumsModel") (T := TB_M) (N := 33) hx hb hts ui_M hown hK hP 0 rfl rfl 16 (by decide) (hts _ uw_712) (fun _ h9 => h9) rfl de_M_table_55 ?_
          refine lv_iconst (v := 1) hx hb de_M_table_58 (by decide) ?_
          refine lv_isub hx hb de_M_table_59 ?_
          refine lv_topi (fun v_30 ev_30 => ?_)
          have ev_30 : v_30 = (nI ((t.2.2.2 3) - 1)) := ev_30.trans (pk_sub (a := t.2.2.2 3) (b := 1) (by omega))
          subst ev_30
          refine lv_goto (tgt := 65) hx hb de_M_table_60 (by decide) ?_
          refine lv_istore (lv' := [(6, .int (nI ((t.2.2.2 3) - 1))), (5, .int (nI (i - 1))), (0, .ref (ad 0)), (1, .long a0), (3, .int 0), (4, .int (nI i))]) hx hb de_M_table_65 hl (by decide) rfl (fun ls hl => ?_)
          refine lv_aload_n hx hb de_M_table_67 rfl (lv_at hl 2 rfl) ?_
          refine lv_lconst (v := 0) hx hb de_M_table_68 (by decide) ?_
          refine va_put (D := (dC, dI)) (ci := 9) (v := .long 0) (ty := .long) (C := "StabilitySumsModel") (T := TB_M) (N := 33) hx hb hts ui_M tt_M tk_M nm_M hown hK hP hD hS 0 rfl rfl 31 (by decide) (hts _ uw_727) (fun _ h9 => h9) rfl (by decide +kernel) rfl rfl (Nat.le_of_ble_eq_true rfl) de_M_table_69 (fun H locs hP hD hS => ?_)
          have hP : va_P (dC, dI) CLS (wM ad T (sF t 2 0)) H := hP
          have hD : va_D A (wM ad T (sF t 2 0)) := hD
          refine lv_aload_n hx hb de_M_table_72 rfl (lv_at hl 2 rfl) ?_
          refine lv_lconst (v := 1) hx hb de_M_table_73 (by decide) ?_
          refine va_put (D := (dC, dI)) (ci := 9) (v := .long 1) (ty := .long) (C := "StabilitySumsModel") (T := TB_M) (N := 33) hx hb hts ui_M tt_M tk_M nm_M hown hK hP hD hS 0 rfl rfl 32 (by decide) (hts _ uw_728) (fun _ h9 => h9) rfl (by decide +kernel) rfl rfl (Nat.le_of_ble_eq_true rfl) de_M_table_74 (fun H locs hP hD hS => ?_)
          have hP : va_P (dC, dI) CLS (wM ad T (sF (sF t 2 0) 3 1)) H := hP
          have hD : va_D A (wM ad T (sF (sF t 2 0) 3 1)) := hD
          refine lv_aload_n hx hb de_M_table_77 rfl (lv_at hl 2 rfl) ?_
          refine va_get (D := (dC, dI)) (ci := 9) (v := .int (nI (t.2.2.2 3))) (C := "StabilitySumsModel") (T := TB_M) (N := 33) hx hb hts ui_M hown hK hP 0 rfl rfl 16 (by decide) (hts _ uw_712) (fun _ h9 => h9) rfl de_M_table_78 ?_
          refine lv_if_ne (tgt := 85) hx hb de_M_table_81 (by decide) (fun c_31 => ?_) (fun c_31 => ?_)
          · skip
            have c_31 : ¬ (t.2.2.2 3) = 0 := fun z => c_31 ((nz0 (by omega)).mpr z)
            refine lv_iload_n hx hb de_M_table_85 rfl (lv_at hl 4 rfl) ?_
            refine lv_if_eq (tgt := 99) hx hb de_M_table_86 (by decide) (fun c_32 => ?_) (fun c_32 => ?_)
            · skip
              refine lv_aload_n hx hb de_M_table_99 rfl (lv_at hl 2 rfl) ?_
              refine va_get (D := (dC, dI)) (ci := 9) (v := .ref (ad 16)) (C := "StabilitySumsModel") (T := TB_M) (N := 33) hx hb hts ui_M hown hK hP 0 rfl rfl 19 (by decide) (hts _ uw_715) (fun _ h9 => h9) rfl de_M_table_100 ?_
              refine lv_iload hx hb de_M_table_103 (lv_at hl 1 rfl) ?_
              refine rw_lald (f := t.1 15) (j := (i - 1)) hx hb hK hP 16 0 rfl rfl (by omega) (by decide) de_M_table_105 ?_
              refine lv_lstore (lv' := [(7, .long (t.1 15 (i - 1))), (6, .int (nI ((t.2.2.2 3) - 1))), (5, .int (nI (i - 1))), (0, .ref (ad 0)), (1, .long a0), (3, .int 0), (4, .int (nI i))]) hx hb de_M_table_106 hl (by decide) rfl (fun ls hl => ?_)
              refine lv_iload_n hx hb de_M_table_108 rfl (lv_at hl 5 rfl) ?_
              refine lv_if_eq (tgt := 122) hx hb de_M_table_109 (by decide) (fun c_33 => ?_) (fun c_33 => ?_)
              · skip
                refine lv_aload_n hx hb de_M_table_122 rfl (lv_at hl 3 rfl) ?_
                refine va_get (D := (dC, dI)) (ci := 9) (v := .ref (ad 16)) (C := "StabilitySumsModel") (T := TB_M) (N := 33) hx hb hts ui_M hown hK hP 0 rfl rfl 19 (by decide) (hts _ uw_715) (fun _ h9 => h9) rfl de_M_table_123 ?_
                refine lv_iload hx hb de_M_table_126 (lv_at hl 1 rfl) ?_
                refine rw_lald (f := t.1 15) (j := ((t.2.2.2 3) - 1)) hx hb hK hP 16 0 rfl rfl (by omega) (by decide) de_M_table_128 ?_
                refine lv_lstore (lv' := [(9, .long (t.1 15 ((t.2.2.2 3) - 1))), (7, .long (t.1 15 (i - 1))), (6, .int (nI ((t.2.2.2 3) - 1))), (5, .int (nI (i - 1))), (0, .ref (ad 0)), (1, .long a0), (3, .int 0), (4, .int (nI i))]) hx hb de_M_table_129 hl (by decide) rfl (fun ls hl => ?_)
                refine lv_aload_n hx hb de_M_table_131 rfl (lv_at hl 4 rfl) ?_
                refine lv_lload hx hb de_M_table_132 (lv_at hl 1 rfl) ?_
                refine va_put (D := (dC, dI)) (ci := 9) (v := .long (t.1 15 (i - 1))) (ty := .long) (C := "StabilitySumsModel") (T := TB_M) (N := 33) hx hb hts ui_M tt_M tk_M nm_M hown hK hP hD hS 0 rfl rfl 31 (by decide) (hts _ uw_727) (fun _ h9 => h9) rfl (by decide +kernel) rfl rfl (Nat.le_of_ble_eq_true rfl) de_M_table_134 (fun H locs hP hD hS => ?_)
                have hP : va_P (dC, dI) CLS (wM ad T (sF (sF (sF t 2 0) 3 1) 2 (t.1 15 (i - 1)))) H := hP
                have hD : va_D A (wM ad T (sF (sF (sF t 2 0) 3 1) 2 (t.1 15 (i - 1)))) := hD
                refine lv_iload hx hb de_M_table_137 (lv_at hl 3 rfl) ?_
                refine lv_iload hx hb de_M_table_139 (lv_at hl 2 rfl) ?_
                refine lv_icmp_eq (tgt := 190) hx hb de_M_table_141 (by decide) (fun c_34 => ?_) (fun c_34 => ?_)
                · skip
                  have c_34 : (i - 1) = ((t.2.2.2 3) - 1) := (nI_eq (a := i - 1) (b := (t.2.2.2 3) - 1) (by omega) (by omega)).mp c_34
                  have hfin : (sF (sF (sF t 2 0) 3 1) 2 (t.1 15 (i - 1))) = y_tb 15 a0 t := by
                    have hU9 : y_tU 15 t a0 = (t.1 15 (i - 1)) := by
                      clear hP hD hS hl hK hN hts hA hown hml hx hb hr hlocks hQ hAe
                      unfold y_tU; simp only [y_one, y_two, hi9]; grind
                    have hD9 : y_tD t a0 = 1 := by
                      clear hP hD hS hl hK hN hts hA hown hml hx hb hr hlocks hQ hAe
                      unfold y_tD; simp only [y_one, y_two, hi9]; grind
                    unfold y_tb; rw [hU9, hD9]; first | done | simp only [sF_idem, sF_c32]
                  rw [hfin] at hP hD
                  subst hQ
                  exact W.vret hx hb hr (fun t9 ht hW => ⟨⟨(), rfl, trivial, by rw [ht]; exact hP, va_K.moved hW.alike hK, hD⟩, hS.F ht⟩) hS.2.2 de_M_table_190
                · skip
                  have c_34 : ¬ ((i - 1) = ((t.2.2.2 3) - 1)) := fun z => c_34 ((nI_eq (a := i - 1) (b := (t.2.2.2 3) - 1) (by omega) (by omega)).mpr z)
                  refine lv_aload_n hx hb de_M_table_144 rfl (lv_at hl 4 rfl) ?_
                  refine lv_aload_n hx hb de_M_table_145 rfl (lv_at hl 4 rfl) ?_
                  refine va_get (D := (dC, dI)) (ci := 9) (v := .ref (ad 14)) (C := "StabilitySumsModel") (T := TB_M) (N := 33) hx hb hts ui_M hown hK hP 0 rfl rfl 17 (by decide) (hts _ uw_713) (fun _ h9 => h9) rfl de_M_table_146 ?_
                  refine lv_iload hx hb de_M_table_149 (lv_at hl 2 rfl) ?_
                  refine rw_lald (f := t.1 13) (j := ((t.2.2.2 3) - 1)) hx hb hK hP 14 0 rfl rfl (by omega) (by decide) de_M_table_151 ?_
                  refine lv_aload_n hx hb de_M_table_152 rfl (lv_at hl 4 rfl) ?_
                  refine va_get (D := (dC, dI)) (ci := 9) (v := .ref (ad 14)) (C := "StabilitySumsModel") (T := TB_M) (N := 33) hx hb hts ui_M hown hK hP 0 rfl rfl 17 (by decide) (hts _ uw_713) (fun _ h9 => h9) rfl de_M_table_153 ?_
                  refine lv_iload hx hb de_M_table_156 (lv_at hl 3 rfl) ?_
                  refine rw_lald (f := t.1 13) (j := (i - 1)) hx hb hK hP 14 0 rfl rfl (by omega) (by decide) de_M_table_158 ?_
                  refine lv_lsub hx hb de_M_table_159 ?_
                  refine lv_topl (fun v_35 ev_35 => ?_)
                  have ev_35 : v_35 = (t.1 13 ((t.2.2.2 3) - 1)) - (t.1 13 (i - 1)) := ev_35
                  refine va_put (D := (dC, dI)) (ci := 9) (v := .long v_35) (ty := .long) (C := "StabilitySumsModel") (T := TB_M) (N := 33) hx hb hts ui_M tt_M tk_M nm_M hown hK hP hD hS 0 rfl rfl 32 (by decide) (hts _ uw_728) (fun _ h9 => h9) rfl (by decide +kernel) rfl rfl (Nat.le_of_ble_eq_true rfl) de_M_table_160 (fun H locs hP hD hS => ?_)
                  have hP : va_P (dC, dI) CLS (wM ad T (sF (sF (sF (sF t 2 0) 3 1) 2 (t.1 15 (i - 1))) 3 v_35)) H := hP
                  have hD : va_D A (wM ad T (sF (sF (sF (sF t 2 0) 3 1) 2 (t.1 15 (i - 1))) 3 v_35)) := hD
                  refine lv_aload_n hx hb de_M_table_163 rfl (lv_at hl 4 rfl) ?_
                  refine lv_lload hx hb de_M_table_164 (lv_at hl 1 rfl) ?_
                  refine lv_aload_n hx hb de_M_table_166 rfl (lv_at hl 4 rfl) ?_
                  refine va_get (D := (dC, dI)) (ci := 9) (v := .long v_35) (C := "StabilitySumsModel") (T := TB_M) (N := 33) hx hb hts ui_M hown hK hP 0 rfl rfl 32 (by decide) (hts _ uw_728) (fun _ h9 => h9) rfl de_M_table_167 ?_
                  refine lv_lmul hx hb de_M_table_170 ?_
                  refine lv_topl (fun v_36 ev_36 => ?_)
                  have ev_36 : v_36 = (t.1 15 (i - 1)) * v_35 := ev_36
                  refine lv_lload hx hb de_M_table_171 (lv_at hl 0 rfl) ?_
                  refine lv_lload hx hb de_M_table_173 (lv_at hl 1 rfl) ?_
                  refine lv_lsub hx hb de_M_table_175 ?_
                  refine lv_topl (fun v_37 ev_37 => ?_)
                  have ev_37 : v_37 = (t.1 15 ((t.2.2.2 3) - 1)) - (t.1 15 (i - 1)) := ev_37
                  refine lv_lload_n hx hb de_M_table_176 rfl (lv_at hl 5 rfl) ?_
                  refine lv_aload_n hx hb de_M_table_177 rfl (lv_at hl 4 rfl) ?_
                  refine va_get (D := (dC, dI)) (ci := 9) (v := .ref (ad 14)) (C := "StabilitySumsModel") (T := TB_M) (N := 33) hx hb hts ui_M hown hK hP 0 rfl rfl 17 (by decide) (hts _ uw_713) (fun _ h9 => h9) rfl de_M_table_178 ?_
                  refine lv_iload hx hb de_M_table_181 (lv_at hl 3 rfl) ?_
                  refine rw_lald (f := t.1 13) (j := (i - 1)) hx hb hK hP 14 0 rfl rfl (by omega) (by decide) de_M_table_183 ?_
                  refine lv_lsub hx hb de_M_table_184 ?_
                  refine lv_topl (fun v_38 ev_38 => ?_)
                  have ev_38 : v_38 = a0 - (t.1 13 (i - 1)) := ev_38
                  refine lv_lmul hx hb de_M_table_185 ?_
                  refine lv_topl (fun v_39 ev_39 => ?_)
                  have ev_39 : v_39 = v_37 * v_38 := ev_39
                  refine lv_ladd hx hb de_M_table_186 ?_
                  refine lv_topl (fun v_40 ev_40 => ?_)
                  have ev_40 : v_40 = v_36 + v_39 := ev_40
                  refine va_put (D := (dC, dI)) (ci := 9) (v := .long v_40) (ty := .long) (C := "StabilitySumsModel") (T := TB_M) (N := 33) hx hb hts ui_M tt_M tk_M nm_M hown hK hP hD hS 0 rfl rfl 31 (by decide) (hts _ uw_727) (fun _ h9 => h9) rfl (by decide +kernel) rfl rfl (Nat.le_of_ble_eq_true rfl) de_M_table_187 (fun H locs hP hD hS => ?_)
                  have hP : va_P (dC, dI) CLS (wM ad T (sF (sF (sF (sF (sF t 2 0) 3 1) 2 (t.1 15 (i - 1))) 3 v_35) 2 v_40)) H := hP
                  have hD : va_D A (wM ad T (sF (sF (sF (sF (sF t 2 0) 3 1) 2 (t.1 15 (i - 1))) 3 v_35) 2 v_40)) := hD
                  have hfin : (sF (sF (sF (sF (sF t 2 0) 3 1) 2 (t.1 15 (i - 1))) 3 v_35) 2 v_40) = y_tb 15 a0 t := by
                    have hU9 : y_tU 15 t a0 = v_40 := by
                      clear hP hD hS hl hK hN hts hA hown hml hx hb hr hlocks hQ hAe
                      unfold y_tU; simp only [y_one, y_two, hi9]; grind
                    have hD9 : y_tD t a0 = v_35 := by
                      clear hP hD hS hl hK hN hts hA hown hml hx hb hr hlocks hQ hAe
                      unfold y_tD; simp only [y_one, y_two, hi9]; grind
                    unfold y_tb; rw [hU9, hD9]; first | done | simp only [sF_idem, sF_c32]
                  rw [hfin] at hP hD
                  subst hQ
                  exact W.vret hx hb hr (fun t9 ht hW => ⟨⟨(), rfl, trivial, by rw [ht]; exact hP, va_K.moved hW.alike hK, hD⟩, hS.F ht⟩) hS.2.2 de_M_table_190
              · skip
                exact absurd rfl c_33
            · skip
              refine lv_aload_n hx hb de_M_table_89 rfl (lv_at hl 2 rfl) ?_
              refine va_get (D := (dC, dI)) (ci := 9) (v := .ref (ad 15)) (C := "StabilitySumsModel") (T := TB_M) (N := 33) hx hb hts ui_M hown hK hP 0 rfl rfl 18 (by decide) (hts _ uw_714) (fun _ h9 => h9) rfl de_M_table_90 ?_
              refine lv_iload hx hb de_M_table_93 (lv_at hl 1 rfl) ?_
              refine rw_lald (f := t.1 14) (j := (i - 1)) hx hb hK hP 15 0 rfl rfl (by omega) (by decide) de_M_table_95 ?_
              refine lv_goto (tgt := 106) hx hb de_M_table_96 (by decide) ?_
              refine lv_lstore (lv' := [(7, .long (t.1 14 (i - 1))), (6, .int (nI ((t.2.2.2 3) - 1))), (5, .int (nI (i - 1))), (0, .ref (ad 0)), (1, .long a0), (3, .int 0), (4, .int (nI i))]) hx hb de_M_table_106 hl (by decide) rfl (fun ls hl => ?_)
              refine lv_iload_n hx hb de_M_table_108 rfl (lv_at hl 5 rfl) ?_
              refine lv_if_eq (tgt := 122) hx hb de_M_table_109 (by decide) (fun c_41 => ?_) (fun c_41 => ?_)
              · skip
                refine lv_aload_n hx hb de_M_table_122 rfl (lv_at hl 3 rfl) ?_
                refine va_get (D := (dC, dI)) (ci := 9) (v := .ref (ad 16)) (C := "StabilitySumsModel") (T := TB_M) (N := 33) hx hb hts ui_M hown hK hP 0 rfl rfl 19 (by decide) (hts _ uw_715) (fun _ h9 => h9) rfl de_M_table_123 ?_
                refine lv_iload hx hb de_M_table_126 (lv_at hl 1 rfl) ?_
                refine rw_lald (f := t.1 15) (j := ((t.2.2.2 3) - 1)) hx hb hK hP 16 0 rfl rfl (by omega) (by decide) de_M_table_128 ?_
                refine lv_lstore (lv' := [(9, .long (t.1 15 ((t.2.2.2 3) - 1))), (7, .long (t.1 14 (i - 1))), (6, .int (nI ((t.2.2.2 3) - 1))), (5, .int (nI (i - 1))), (0, .ref (ad 0)), (1, .long a0), (3, .int 0), (4, .int (nI i))]) hx hb de_M_table_129 hl (by decide) rfl (fun ls hl => ?_)
                refine lv_aload_n hx hb de_M_table_131 rfl (lv_at hl 4 rfl) ?_
                refine lv_lload hx hb de_M_table_132 (lv_at hl 1 rfl) ?_
                refine va_put (D := (dC, dI)) (ci := 9) (v := .long (t.1 14 (i - 1))) (ty := .long) (C := "StabilitySumsModel") (T := TB_M) (N := 33) hx hb hts ui_M tt_M tk_M nm_M hown hK hP hD hS 0 rfl rfl 31 (by decide) (hts _ uw_727) (fun _ h9 => h9) rfl (by decide +kernel) rfl rfl (Nat.le_of_ble_eq_true rfl) de_M_table_134 (fun H locs hP hD hS => ?_)
                have hP : va_P (dC, dI) CLS (wM ad T (sF (sF (sF t 2 0) 3 1) 2 (t.1 14 (i - 1)))) H := hP
                have hD : va_D A (wM ad T (sF (sF (sF t 2 0) 3 1) 2 (t.1 14 (i - 1)))) := hD
                refine lv_iload hx hb de_M_table_137 (lv_at hl 3 rfl) ?_
                refine lv_iload hx hb de_M_table_139 (lv_at hl 2 rfl) ?_
                refine lv_icmp_eq (tgt := 190) hx hb de_M_table_141 (by decide) (fun c_42 => ?_) (fun c_42 => ?_)
                · skip
                  have c_42 : (i - 1) = ((t.2.2.2 3) - 1) := (nI_eq (a := i - 1) (b := (t.2.2.2 3) - 1) (by omega) (by omega)).mp c_42
                  have hfin : (sF (sF (sF t 2 0) 3 1) 2 (t.1 14 (i - 1))) = y_tb 15 a0 t := by
                    have hU9 : y_tU 15 t a0 = (t.1 14 (i - 1)) := by
                      clear hP hD hS hl hK hN hts hA hown hml hx hb hr hlocks hQ hAe
                      unfold y_tU; simp only [y_one, y_two, hi9]; grind
                    have hD9 : y_tD t a0 = 1 := by
                      clear hP hD hS hl hK hN hts hA hown hml hx hb hr hlocks hQ hAe
                      unfold y_tD; simp only [y_one, y_two, hi9]; grind
                    unfold y_tb; rw [hU9, hD9]; first | done | simp only [sF_idem, sF_c32]
                  rw [hfin] at hP hD
                  subst hQ
                  exact W.vret hx hb hr (fun t9 ht hW => ⟨⟨(), rfl, trivial, by rw [ht]; exact hP, va_K.moved hW.alike hK, hD⟩, hS.F ht⟩) hS.2.2 de_M_table_190
                · skip
                  have c_42 : ¬ ((i - 1) = ((t.2.2.2 3) - 1)) := fun z => c_42 ((nI_eq (a := i - 1) (b := (t.2.2.2 3) - 1) (by omega) (by omega)).mpr z)
                  refine lv_aload_n hx hb de_M_table_144 rfl (lv_at hl 4 rfl) ?_
                  refine lv_aload_n hx hb de_M_table_145 rfl (lv_at hl 4 rfl) ?_
                  refine va_get (D := (dC, dI)) (ci := 9) (v := .ref (ad 14)) (C := "StabilitySumsModel") (T := TB_M) (N := 33) hx hb hts ui_M hown hK hP 0 rfl rfl 17 (by decide) (hts _ uw_713) (fun _ h9 => h9) rfl de_M_table_146 ?_
                  refine lv_iload hx hb de_M_table_149 (lv_at hl 2 rfl) ?_
                  refine rw_lald (f := t.1 13) (j := ((t.2.2.2 3) - 1)) hx hb hK hP 14 0 rfl rfl (by omega) (by decide) de_M_table_151 ?_
                  refine lv_aload_n hx hb de_M_table_152 rfl (lv_at hl 4 rfl) ?_
                  refine va_get (D := (dC, dI)) (ci := 9) (v := .ref (ad 14)) (C := "StabilitySumsModel") (T := TB_M) (N := 33) hx hb hts ui_M hown hK hP 0 rfl rfl 17 (by decide) (hts _ uw_713) (fun _ h9 => h9) rfl de_M_table_153 ?_
                  refine lv_iload hx hb de_M_table_156 (lv_at hl 3 rfl) ?_
                  refine rw_lald (f := t.1 13) (j := (i - 1)) hx hb hK hP 14 0 rfl rfl (by omega) (by decide) de_M_table_158 ?_
                  refine lv_lsub hx hb de_M_table_159 ?_
                  refine lv_topl (fun v_43 ev_43 => ?_)
                  have ev_43 : v_43 = (t.1 13 ((t.2.2.2 3) - 1)) - (t.1 13 (i - 1)) := ev_43
                  refine va_put (D := (dC, dI)) (ci := 9) (v := .long v_43) (ty := .long) (C := "StabilitySumsModel") (T := TB_M) (N := 33) hx hb hts ui_M tt_M tk_M nm_M hown hK hP hD hS 0 rfl rfl 32 (by decide) (hts _ uw_728) (fun _ h9 => h9) rfl (by decide +kernel) rfl rfl (Nat.le_of_ble_eq_true rfl) de_M_table_160 (fun H locs hP hD hS => ?_)
                  have hP : va_P (dC, dI) CLS (wM ad T (sF (sF (sF (sF t 2 0) 3 1) 2 (t.1 14 (i - 1))) 3 v_43)) H := hP
                  have hD : va_D A (wM ad T (sF (sF (sF (sF t 2 0) 3 1) 2 (t.1 14 (i - 1))) 3 v_43)) := hD
                  refine lv_aload_n hx hb de_M_table_163 rfl (lv_at hl 4 rfl) ?_
                  refine lv_lload hx hb de_M_table_164 (lv_at hl 1 rfl) ?_
                  refine lv_aload_n hx hb de_M_table_166 rfl (lv_at hl 4 rfl) ?_
                  refine va_get (D := (dC, dI)) (ci := 9) (v := .long v_43) (C := "StabilitySumsModel") (T := TB_M) (N := 33) hx hb hts ui_M hown hK hP 0 rfl rfl 32 (by decide) (hts _ uw_728) (fun _ h9 => h9) rfl de_M_table_167 ?_
                  refine lv_lmul hx hb de_M_table_170 ?_
                  refine lv_topl (fun v_44 ev_44 => ?_)
                  have ev_44 : v_44 = (t.1 14 (i - 1)) * v_43 := ev_44
                  refine lv_lload hx hb de_M_table_171 (lv_at hl 0 rfl) ?_
                  refine lv_lload hx hb de_M_table_173 (lv_at hl 1 rfl) ?_
                  refine lv_lsub hx hb de_M_table_175 ?_
                  refine lv_topl (fun v_45 ev_45 => ?_)
                  have ev_45 : v_45 = (t.1 15 ((t.2.2.2 3) - 1)) - (t.1 14 (i - 1)) := ev_45
                  refine lv_lload_n hx hb de_M_table_176 rfl (lv_at hl 5 rfl) ?_
                  refine lv_aload_n hx hb de_M_table_177 rfl (lv_at hl 4 rfl) ?_
                  refine va_get (D := (dC, dI)) (ci := 9) (v := .ref (ad 14)) (C := "StabilitySumsModel") (T := TB_M) (N := 33) hx hb hts ui_M hown hK hP 0 rfl rfl 17 (by decide) (hts _ uw_713) (fun _ h9 => h9) rfl de_M_table_178 ?_
                  refine lv_iload hx hb de_M_table_181 (lv_at hl 3 rfl) ?_
                  refine rw_lald (f := t.1 13) (j := (i - 1)) hx hb hK hP 14 0 rfl rfl (by omega) (by decide) de_M_table_183 ?_
                  refine lv_lsub hx hb de_M_table_184 ?_
                  refine lv_topl (fun v_46 ev_46 => ?_)
                  have ev_46 : v_46 = a0 - (t.1 13 (i - 1)) := ev_46
                  refine lv_lmul hx hb de_M_table_185 ?_
                  refine lv_topl (fun v_47 ev_47 => ?_)
                  have ev_47 : v_47 = v_45 * v_46 := ev_47
                  refine lv_ladd hx hb de_M_table_186 ?_
                  refine lv_topl (fun v_48 ev_48 => ?_)
                  have ev_48 : v_48 = v_44 + v_47 := ev_48
                  refine va_put (D := (dC, dI)) (ci := 9) (v := .long v_48) (ty := .long) (C := "StabilitySumsModel") (T := TB_M) (N := 33) hx hb hts ui_M tt_M tk_M nm_M hown hK hP hD hS 0 rfl rfl 31 (by decide) (hts _ uw_727) (fun _ h9 => h9) rfl (by decide +kernel) rfl rfl (Nat.le_of_ble_eq_true rfl) de_M_table_187 (fun H locs hP hD hS => ?_)
                  have hP : va_P (dC, dI) CLS (wM ad T (sF (sF (sF (sF (sF t 2 0) 3 1) 2 (t.1 14 (i - 1))) 3 v_43) 2 v_48)) H := hP
                  have hD : va_D A (wM ad T (sF (sF (sF (sF (sF t 2 0) 3 1) 2 (t.1 14 (i - 1))) 3 v_43) 2 v_48)) := hD
                  have hfin : (sF (sF (sF (sF (sF t 2 0) 3 1) 2 (t.1 14 (i - 1))) 3 v_43) 2 v_48) = y_tb 15 a0 t := by
                    have hU9 : y_tU 15 t a0 = v_48 := by
                      clear hP hD hS hl hK hN hts hA hown hml hx hb hr hlocks hQ hAe
                      unfold y_tU; simp only [y_one, y_two, hi9]; grind
                    have hD9 : y_tD t a0 = v_43 := by
                      clear hP hD hS hl hK hN hts hA hown hml hx hb hr hlocks hQ hAe
                      unfold y_tD; simp only [y_one, y_two, hi9]; grind
                    unfold y_tb; rw [hU9, hD9]; first | done | simp only [sF_idem, sF_c32]
                  rw [hfin] at hP hD
                  subst hQ
                  exact W.vret hx hb hr (fun t9 ht hW => ⟨⟨(), rfl, trivial, by rw [ht]; exact hP, va_K.moved hW.alike hK, hD⟩, hS.F ht⟩) hS.2.2 de_M_table_190
              · skip
                exact absurd rfl c_41
          · skip
            have c_31 : (t.2.2.2 3) = 0 := (nz0 (by omega)).mp c_31
            have hfin : (sF (sF t 2 0) 3 1) = y_tb 15 a0 t := by
              have hU9 : y_tU 15 t a0 = 0 := by
                clear hP hD hS hl hK hN hts hA hown hml hx hb hr hlocks hQ hAe
                unfold y_tU; simp only [y_one, y_two, hi9]; grind
              have hD9 : y_tD t a0 = 1 := by
                clear hP hD hS hl hK hN hts hA hown hml hx hb hr hlocks hQ hAe
                unfold y_tD; simp only [y_one, y_two, hi9]; grind
              unfold y_tb; rw [hU9, hD9]; first | done | simp only [sF_idem, sF_c32]
            rw [hfin] at hP hD
            subst hQ
            exact W.vret hx hb hr (fun t9 ht hW => ⟨⟨(), rfl, trivial, by rw [ht]; exact hP, va_K.moved hW.alike hK, hD⟩, hS.F ht⟩) hS.2.2 de_M_table_84
      · skip
        have c_9 : i = 0 := (nz0 (by omega)).mp c_9
        refine lv_iconst (v := 0) hx hb de_M_table_35 (by decide) ?_
        refine lv_goto (tgt := 43) hx hb de_M_table_36 (by decide) ?_
        refine lv_istore (lv' := [(5, .int 0), (0, .ref (ad 0)), (1, .long a0), (3, .int 0), (4, .int (nI i))]) hx hb de_M_table_43 hl (by decide) rfl (fun ls hl => ?_)
        refine lv_iload hx hb de_M_table_45 (lv_at hl 4 rfl) ?_
        refine lv_aload_n hx hb de_M_table_47 rfl (lv_at hl 1 rfl) ?_
        refine va_get (D := (dC, dI)) (ci := 9) (v := .int (nI (t.2.2.2 3))) (C := "StabilitySumsModel") (T := TB_M) (N := 33) hx hb hts ui_M hown hK hP 0 rfl rfl 16 (by decide) (hts _ uw_712) (fun _ h9 => h9) rfl de_M_table_48 ?_
        refine lv_icmp_ne (tgt := 63) hx hb de_M_table_51 (by decide) (fun c_49 => ?_) (fun c_49 => ?_)
        · skip
          have c_49 : ¬ (i = (t.2.2.2 3)) := fun z => c_49 ((nI_eq (a := i) (b := t.2.2.2 3) (by omega) (by omega)).mpr z)
          refine lv_iload hx hb de_M_table_63 (lv_at hl 4 rfl) ?_
          refine lv_istore (lv' := [(6, .int (nI i)), (5, .int 0), (0, .ref (ad 0)), (1, .long a0), (3, .int 0), (4, .int (nI i))]) hx hb de_M_table_65 hl (by decide) rfl (fun ls hl => ?_)
          refine lv_aload_n hx hb de_M_table_67 rfl (lv_at hl 2 rfl) ?_
          refine lv_lconst (v := 0) hx hb de_M_table_68 (by decide) ?_
          refine va_put (D := (dC, dI)) (ci := 9) (v := .long 0) (ty := .long) (C := "StabilitySumsModel") (T := TB_M) (N := 33) hx hb hts ui_M tt_M tk_M nm_M hown hK hP hD hS 0 rfl rfl 31 (by decide) (hts _ uw_727) (fun _ h9 => h9) rfl (by decide +kernel) rfl rfl (Nat.le_of_ble_eq_true rfl) de_M_table_69 (fun H locs hP hD hS => ?_)
          have hP : va_P (dC, dI) CLS (wM ad T (sF t 2 0)) H := hP
          have hD : va_D A (wM ad T (sF t 2 0)) := hD
          refine lv_aload_n hx hb de_M_table_72 rfl (lv_at hl 2 rfl) ?_
          refine lv_lconst (v := 1) hx hb de_M_table_73 (by decide) ?_
          refine va_put (D := (dC, dI)) (ci := 9) (v := .long 1) (ty := .long) (C := "StabilitySumsModel") (T := TB_M) (N := 33) hx hb hts ui_M tt_M tk_M nm_M hown hK hP hD hS 0 rfl rfl 32 (by decide) (hts _ uw_728) (fun _ h9 => h9) rfl (by decide +kernel) rfl rfl (Nat.le_of_ble_eq_true rfl) de_M_table_74 (fun H locs hP hD hS => ?_)
          have hP : va_P (dC, dI) CLS (wM ad T (sF (sF t 2 0) 3 1)) H := hP
          have hD : va_D A (wM ad T (sF (sF t 2 0) 3 1)) := hD
          refine lv_aload_n hx hb de_M_table_77 rfl (lv_at hl 2 rfl) ?_
          refine va_get (D := (dC, dI)) (ci := 9) (v := .int (nI (t.2.2.2 3))) (C := "StabilitySumsModel") (T := TB_M) (N := 33) hx hb hts ui_M hown hK hP 0 rfl rfl 16 (by decide) (hts _ uw_712) (fun _ h9 => h9) rfl de_M_table_78 ?_
          refine lv_if_ne (tgt := 85) hx hb de_M_table_81 (by decide) (fun c_50 => ?_) (fun c_50 => ?_)
          · skip
            have c_50 : ¬ (t.2.2.2 3) = 0 := fun z => c_50 ((nz0 (by omega)).mpr z)
            refine lv_iload_n hx hb de_M_table_85 rfl (lv_at hl 4 rfl) ?_
            refine lv_if_eq (tgt := 99) hx hb de_M_table_86 (by decide) (fun c_51 => ?_) (fun c_51 => ?_)
            · skip
              refine lv_aload_n hx hb de_M_table_99 rfl (lv_at hl 2 rfl) ?_
              refine va_get (D := (dC, dI)) (ci := 9) (v := .ref (ad 16)) (C := "StabilitySumsModel") (T := TB_M) (N := 33) hx hb hts ui_M hown hK hP 0 rfl rfl 19 (by decide) (hts _ uw_715) (fun _ h9 => h9) rfl de_M_table_100 ?_
              refine lv_iload hx hb de_M_table_103 (lv_at hl 1 rfl) ?_
              refine rw_lald (f := t.1 15) (j := 0) hx hb hK hP 16 0 rfl rfl (by decide) (by decide) de_M_table_105 ?_
              refine lv_lstore (lv' := [(7, .long (t.1 15 0)), (6, .int (nI i)), (5, .int 0), (0, .ref (ad 0)), (1, .long a0), (3, .int 0), (4, .int (nI i))]) hx hb de_M_table_106 hl (by decide) rfl (fun ls hl => ?_)
              refine lv_iload_n hx hb de_M_table_108 rfl (lv_at hl 5 rfl) ?_
              refine lv_if_eq (tgt := 122) hx hb de_M_table_109 (by decide) (fun c_52 => ?_) (fun c_52 => ?_)
              · skip
                refine lv_aload_n hx hb de_M_table_122 rfl (lv_at hl 3 rfl) ?_
                refine va_get (D := (dC, dI)) (ci := 9) (v := .ref (ad 16)) (C := "StabilitySumsModel") (T := TB_M) (N := 33) hx hb hts ui_M hown hK hP 0 rfl rfl 19 (by decide) (hts _ uw_715) (fun _ h9 => h9) rfl de_M_table_123 ?_
                refine lv_iload hx hb de_M_table_126 (lv_at hl 1 rfl) ?_
                refine rw_lald (f := t.1 15) (j := i) hx hb hK hP 16 0 rfl rfl (by omega) (by decide) de_M_table_128 ?_
                refine lv_lstore (lv' := [(9, .long (t.1 15 i)), (7, .long (t.1 15 0)), (6, .int (nI i)), (5, .int 0), (0, .ref (ad 0)), (1, .long a0), (3, .int 0), (4, .int (nI i))]) hx hb de_M_table_129 hl (by decide) rfl (fun ls hl => ?_)
                refine lv_aload_n hx hb de_M_table_131 rfl (lv_at hl 4 rfl) ?_
                refine lv_lload hx hb de_M_table_132 (lv_at hl 1 rfl) ?_
                refine va_put (D := (dC, dI)) (ci := 9) (v := .long (t.1 15 0)) (ty := .long) (C := "StabilitySumsModel") (T := TB_M) (N := 33) hx hb hts ui_M tt_M tk_M nm_M hown hK hP hD hS 0 rfl rfl 31 (by decide) (hts _ uw_727) (fun _ h9 => h9) rfl (by decide +kernel) rfl rfl (Nat.le_of_ble_eq_true rfl) de_M_table_134 (fun H locs hP hD hS => ?_)
                have hP : va_P (dC, dI) CLS (wM ad T (sF (sF (sF t 2 0) 3 1) 2 (t.1 15 0))) H := hP
                have hD : va_D A (wM ad T (sF (sF (sF t 2 0) 3 1) 2 (t.1 15 0))) := hD
                refine lv_iload hx hb de_M_table_137 (lv_at hl 3 rfl) ?_
                refine lv_iload hx hb de_M_table_139 (lv_at hl 2 rfl) ?_
                refine lv_icmp_eq (tgt := 190) hx hb de_M_table_141 (by decide) (fun c_53 => ?_) (fun c_53 => ?_)
                · skip
                  have c_53 : 0 = i := (nI_eq (a := 0) (b := i) (by omega) (by omega)).mp c_53
                  have hfin : (sF (sF (sF t 2 0) 3 1) 2 (t.1 15 0)) = y_tb 15 a0 t := by
                    have hU9 : y_tU 15 t a0 = (t.1 15 0) := by
                      clear hP hD hS hl hK hN hts hA hown hml hx hb hr hlocks hQ hAe
                      unfold y_tU; simp only [y_one, y_two, hi9]; grind
                    have hD9 : y_tD t a0 = 1 := by
                      clear hP hD hS hl hK hN hts hA hown hml hx hb hr hlocks hQ hAe
                      unfold y_tD; simp only [y_one, y_two, hi9]; grind
                    unfold y_tb; rw [hU9, hD9]; first | done | simp only [sF_idem, sF_c32]
                  rw [hfin] at hP hD
                  subst hQ
                  exact W.vret hx hb hr (fun t9 ht hW => ⟨⟨(), rfl, trivial, by rw [ht]; exact hP, va_K.moved hW.alike hK, hD⟩, hS.F ht⟩) hS.2.2 de_M_table_190
                · skip
                  have c_53 : ¬ (0 = i) := fun z => c_53 ((nI_eq (a := 0) (b := i) (by omega) (by omega)).mpr z)
                  refine lv_aload_n hx hb de_M_table_144 rfl (lv_at hl 4 rfl) ?_
                  refine lv_aload_n hx hb de_M_table_145 rfl (lv_at hl 4 rfl) ?_
                  refine va_get (D := (dC, dI)) (ci := 9) (v := .ref (ad 14)) (C := "StabilitySumsModel") (T := TB_M) (N := 33) hx hb hts ui_M hown hK hP 0 rfl rfl 17 (by decide) (hts _ uw_713) (fun _ h9 => h9) rfl de_M_table_146 ?_
                  refine lv_iload hx hb de_M_table_149 (lv_at hl 2 rfl) ?_
                  refine rw_lald (f := t.1 13) (j := i) hx hb hK hP 14 0 rfl rfl (by omega) (by decide) de_M_table_151 ?_
                  refine lv_aload_n hx hb de_M_table_152 rfl (lv_at hl 4 rfl) ?_
                  refine va_get (D := (dC, dI)) (ci := 9) (v := .ref (ad 14)) (C := "StabilitySumsModel") (T := TB_M) (N := 33) hx hb hts ui_M hown hK hP 0 rfl rfl 17 (by decide) (hts _ uw_713) (fun _ h9 => h9) rfl de_M_table_153 ?_
                  refine lv_iload hx hb de_M_table_156 (lv_at hl 3 rfl) ?_
                  refine rw_lald (f := t.1 13) (j := 0) hx hb hK hP 14 0 rfl rfl (by decide) (by decide) de_M_table_158 ?_
                  refine lv_lsub hx hb de_M_table_159 ?_
                  refine lv_topl (fun v_54 ev_54 => ?_)
                  have ev_54 : v_54 = (t.1 13 i) - (t.1 13 0) := ev_54
                  refine va_put (D := (dC, dI)) (ci := 9) (v := .long v_54) (ty := .long) (C := "StabilitySumsModel") (T := TB_M) (N := 33) hx hb hts ui_M tt_M tk_M nm_M hown hK hP hD hS 0 rfl rfl 32 (by decide) (hts _ uw_728) (fun _ h9 => h9) rfl (by decide +kernel) rfl rfl (Nat.le_of_ble_eq_true rfl) de_M_table_160 (fun H locs hP hD hS => ?_)
                  have hP : va_P (dC, dI) CLS (wM ad T (sF (sF (sF (sF t 2 0) 3 1) 2 (t.1 15 0)) 3 v_54)) H := hP
                  have hD : va_D A (wM ad T (sF (sF (sF (sF t 2 0) 3 1) 2 (t.1 15 0)) 3 v_54)) := hD
                  refine lv_aload_n hx hb de_M_table_163 rfl (lv_at hl 4 rfl) ?_
                  refine lv_lload hx hb de_M_table_164 (lv_at hl 1 rfl) ?_
                  refine lv_aload_n hx hb de_M_table_166 rfl (lv_at hl 4 rfl) ?_
                  refine va_get (D := (dC, dI)) (ci := 9) (v := .long v_54) (C := "StabilitySumsModel") (T := TB_M) (N := 33) hx hb hts ui_M hown hK hP 0 rfl rfl 32 (by decide) (hts _ uw_728) (fun _ h9 => h9) rfl de_M_table_167 ?_
                  refine lv_lmul hx hb de_M_table_170 ?_
                  refine lv_topl (fun v_55 ev_55 => ?_)
                  have ev_55 : v_55 = (t.1 15 0) * v_54 := ev_55
                  refine lv_lload hx hb de_M_table_171 (lv_at hl 0 rfl) ?_
                  refine lv_lload hx hb de_M_table_173 (lv_at hl 1 rfl) ?_
                  refine lv_lsub hx hb de_M_table_175 ?_
                  refine lv_topl (fun v_56 ev_56 => ?_)
                  have ev_56 : v_56 = (t.1 15 i) - (t.1 15 0) := ev_56
                  refine lv_lload_n hx hb de_M_table_176 rfl (lv_at hl 5 rfl) ?_
                  refine lv_aload_n hx hb de_M_table_177 rfl (lv_at hl 4 rfl) ?_
                  refine va_get (D := (dC, dI)) (ci := 9) (v := .ref (ad 14)) (C := "StabilitySumsModel") (T := TB_M) (N := 33) hx hb hts ui_M hown hK hP 0 rfl rfl 17 (by decide) (hts _ uw_713) (fun _ h9 => h9) rfl de_M_table_178 ?_
                  refine lv_iload hx hb de_M_table_181 (lv_at hl 3 rfl) ?_
                  refine rw_lald (f := t.1 13) (j := 0) hx hb hK hP 14 0 rfl rfl (by decide) (by decide) de_M_table_183 ?_
                  refine lv_lsub hx hb de_M_table_184 ?_
                  refine lv_topl (fun v_57 ev_57 => ?_)
                  have ev_57 : v_57 = a0 - (t.1 13 0) := ev_57
                  refine lv_lmul hx hb de_M_table_185 ?_
                  refine lv_topl (fun v_58 ev_58 => ?_)
                  have ev_58 : v_58 = v_56 * v_57 := ev_58
                  refine lv_ladd hx hb de_M_table_186 ?_
                  refine lv_topl (fun v_59 ev_59 => ?_)
                  have ev_59 : v_59 = v_55 + v_58 := ev_59
                  refine va_put (D := (dC, dI)) (ci := 9) (v := .long v_59) (ty := .long) (C := "StabilitySumsModel") (T := TB_M) (N := 33) hx hb hts ui_M tt_M tk_M nm_M hown hK hP hD hS 0 rfl rfl 31 (by decide) (hts _ uw_727) (fun _ h9 => h9) rfl (by decide +kernel) rfl rfl (Nat.le_of_ble_eq_true rfl) de_M_table_187 (fun H locs hP hD hS => ?_)
                  have hP : va_P (dC, dI) CLS (wM ad T (sF (sF (sF (sF (sF t 2 0) 3 1) 2 (t.1 15 0)) 3 v_54) 2 v_59)) H := hP
                  have hD : va_D A (wM ad T (sF (sF (sF (sF (sF t 2 0) 3 1) 2 (t.1 15 0)) 3 v_54) 2 v_59)) := hD
                  have hfin : (sF (sF (sF (sF (sF t 2 0) 3 1) 2 (t.1 15 0)) 3 v_54) 2 v_59) = y_tb 15 a0 t := by
                    have hU9 : y_tU 15 t a0 = v_59 := by
                      clear hP hD hS hl hK hN hts hA hown hml hx hb hr hlocks hQ hAe
                      unfold y_tU; simp only [y_one, y_two, hi9]; grind
                    have hD9 : y_tD t a0 = v_54 := by
                      clear hP hD hS hl hK hN hts hA hown hml hx hb hr hlocks hQ hAe
                      unfold y_tD; simp only [y_one, y_two, hi9]; grind
                    unfold y_tb; rw [hU9, hD9]; first | done | simp only [sF_idem, sF_c32]
                  rw [hfin] at hP hD
                  subst hQ
                  exact W.vret hx hb hr (fun t9 ht hW => ⟨⟨(), rfl, trivial, by rw [ht]; exact hP, va_K.moved hW.alike hK, hD⟩, hS.F ht⟩) hS.2.2 de_M_table_190
              · skip
                exact absurd rfl c_52
            · skip
              refine lv_aload_n hx hb de_M_table_89 rfl (lv_at hl 2 rfl) ?_
              refine va_get (D := (dC, dI)) (ci := 9) (v := .ref (ad 15)) (C := "StabilitySumsModel") (T := TB_M) (N := 33) hx hb hts ui_M hown hK hP 0 rfl rfl 18 (by decide) (hts _ uw_714) (fun _ h9 => h9) rfl de_M_table_90 ?_
              refine lv_iload hx hb de_M_table_93 (lv_at hl 1 rfl) ?_
              refine rw_lald (f := t.1 14) (j := 0) hx hb hK hP 15 0 rfl rfl (by decide) (by decide) de_M_table_95 ?_
              refine lv_goto (tgt := 106) hx hb de_M_table_96 (by decide) ?_
              refine lv_lstore (lv' := [(7, .long (t.1 14 0)), (6, .int (nI i)), (5, .int 0), (0, .ref (ad 0)), (1, .long a0), (3, .int 0), (4, .int (nI i))]) hx hb de_M_table_106 hl (by decide) rfl (fun ls hl => ?_)
              refine lv_iload_n hx hb de_M_table_108 rfl (lv_at hl 5 rfl) ?_
              refine lv_if_eq (tgt := 122) hx hb de_M_table_109 (by decide) (fun c_60 => ?_) (fun c_60 => ?_)
              · skip
                refine lv_aload_n hx hb de_M_table_122 rfl (lv_at hl 3 rfl) ?_
                refine va_get (D := (dC, dI)) (ci := 9) (v := .ref (ad 16)) (C := "StabilitySumsModel") (T := TB_M) (N := 33) hx hb hts ui_M hown hK hP 0 rfl rfl 19 (by decide) (hts _ uw_715) (fun _ h9 => h9) rfl de_M_table_123 ?_
                refine lv_iload hx hb de_M_table_126 (lv_at hl 1 rfl) ?_
                refine rw_lald (f := t.1 15) (j := i) hx hb hK hP 16 0 rfl rfl (by omega) (by decide) de_M_table_128 ?_
                refine lv_lstore (lv' := [(9, .long (t.1 15 i)), (7, .long (t.1 14 0)), (6, .int (nI i)), (5, .int 0), (0, .ref (ad 0)), (1, .long a0), (3, .int 0), (4, .int (nI i))]) hx hb de_M_table_129 hl (by decide) rfl (fun ls hl => ?_)
                refine lv_aload_n hx hb de_M_table_131 rfl (lv_at hl 4 rfl) ?_
                refine lv_lload hx hb de_M_table_132 (lv_at hl 1 rfl) ?_
                refine va_put (D := (dC, dI)) (ci := 9) (v := .long (t.1 14 0)) (ty := .long) (C := "StabilitySumsModel") (T := TB_M) (N := 33) hx hb hts ui_M tt_M tk_M nm_M hown hK hP hD hS 0 rfl rfl 31 (by decide) (hts _ uw_727) (fun _ h9 => h9) rfl (by decide +kernel) rfl rfl (Nat.le_of_ble_eq_true rfl) de_M_table_134 (fun H locs hP hD hS => ?_)
                have hP : va_P (dC, dI) CLS (wM ad T (sF (sF (sF t 2 0) 3 1) 2 (t.1 14 0))) H := hP
                have hD : va_D A (wM ad T (sF (sF (sF t 2 0) 3 1) 2 (t.1 14 0))) := hD
                refine lv_iload hx hb de_M_table_137 (lv_at hl 3 rfl) ?_
                refine lv_iload hx hb de_M_table_139 (lv_at hl 2 rfl) ?_
                refine lv_icmp_eq (tgt := 190) hx hb de_M_table_141 (by decide) (fun c_61 => ?_) (fun c_61 => ?_)
                · skip
                  have c_61 : 0 = i := (nI_eq (a := 0) (b := i) (by omega) (by omega)).mp c_61
                  have hfin : (sF (sF (sF t 2 0) 3 1) 2 (t.1 14 0)) = y_tb 15 a0 t := by
                    have hU9 : y_tU 15 t a0 = (t.1 14 0) := by
                      clear hP hD hS hl hK hN hts hA hown hml hx hb hr hlocks hQ hAe
                      unfold y_tU; simp only [y_one, y_two, hi9]; grind
                    have hD9 : y_tD t a0 = 1 := by
                      clear hP hD hS hl hK hN hts hA hown hml hx hb hr hlocks hQ hAe
                      unfold y_tD; simp only [y_one, y_two, hi9]; grind
                    unfold y_tb; rw [hU9, hD9]; first | done | simp only [sF_idem, sF_c32]
                  rw [hfin] at hP hD
                  subst hQ
                  exact W.vret hx hb hr (fun t9 ht hW => ⟨⟨(), rfl, trivial, by rw [ht]; exact hP, va_K.moved hW.alike hK, hD⟩, hS.F ht⟩) hS.2.2 de_M_table_190
                · skip
                  have c_61 : ¬ (0 = i) := fun z => c_61 ((nI_eq (a := 0) (b := i) (by omega) (by omega)).mpr z)
                  refine lv_aload_n hx hb de_M_table_144 rfl (lv_at hl 4 rfl) ?_
                  refine lv_aload_n hx hb de_M_table_145 rfl (lv_at hl 4 rfl) ?_
                  refine va_get (D := (dC, dI)) (ci := 9) (v := .ref (ad 14)) (C := "StabilitySumsModel") (T := TB_M) (N := 33) hx hb hts ui_M hown hK hP 0 rfl rfl 17 (by decide) (hts _ uw_713) (fun _ h9 => h9) rfl de_M_table_146 ?_
                  refine lv_iload hx hb de_M_table_149 (lv_at hl 2 rfl) ?_
                  refine rw_lald (f := t.1 13) (j := i) hx hb hK hP 14 0 rfl rfl (by omega) (by decide) de_M_table_151 ?_
                  refine lv_aload_n hx hb de_M_table_152 rfl (lv_at hl 4 rfl) ?_
                  refine va_get (D := (dC, dI)) (ci := 9) (v := .ref (ad 14)) (C := "StabilitySumsModel") (T := TB_M) (N := 33) hx hb hts ui_M hown hK hP 0 rfl rfl 17 (by decide) (hts _ uw_713) (fun _ h9 => h9) rfl de_M_table_153 ?_
                  refine lv_iload hx hb de_M_table_156 (lv_at hl 3 rfl) ?_
                  refine rw_lald (f := t.1 13) (j := 0) hx hb hK hP 14 0 rfl rfl (by decide) (by decide) de_M_table_158 ?_
                  refine lv_lsub hx hb de_M_table_159 ?_
                  refine lv_topl (fun v_62 ev_62 => ?_)
                  have ev_62 : v_62 = (t.1 13 i) - (t.1 13 0) := ev_62
                  refine va_put (D := (dC, dI)) (ci := 9) (v := .long v_62) (ty := .long) (C := "StabilitySumsModel") (T := TB_M) (N := 33) hx hb hts ui_M tt_M tk_M nm_M hown hK hP hD hS 0 rfl rfl 32 (by decide) (hts _ uw_728) (fun _ h9 => h9) rfl (by decide +kernel) rfl rfl (Nat.le_of_ble_eq_true rfl) de_M_table_160 (fun H locs hP hD hS => ?_)
                  have hP : va_P (dC, dI) CLS (wM ad T (sF (sF (sF (sF t 2 0) 3 1) 2 (t.1 14 0)) 3 v_62)) H := hP
                  have hD : va_D A (wM ad T (sF (sF (sF (sF t 2 0) 3 1) 2 (t.1 14 0)) 3 v_62)) := hD
                  refine lv_aload_n hx hb de_M_table_163 rfl (lv_at hl 4 rfl) ?_
                  refine lv_lload hx hb de_M_table_164 (lv_at hl 1 rfl) ?_
                  refine lv_aload_n hx hb de_M_table_166 rfl (lv_at hl 4 rfl) ?_
                  refine va_get (D := (dC, dI)) (ci := 9) (v := .long v_62) (C := "StabilitySumsModel") (T := TB_M) (N := 33) hx hb hts ui_M hown hK hP 0 rfl rfl 32 (by decide) (hts _ uw_728) (fun _ h9 => h9) rfl de_M_table_167 ?_
                  refine lv_lmul hx hb de_M_table_170 ?_
                  refine lv_topl (fun v_63 ev_63 => ?_)
                  have ev_63 : v_63 = (t.1 14 0) * v_62 := ev_63
                  refine lv_lload hx hb de_M_table_171 (lv_at hl 0 rfl) ?_
                  refine lv_lload hx hb de_M_table_173 (lv_at hl 1 rfl) ?_
                  refine lv_lsub hx hb de_M_table_175 ?_
                  refine lv_topl (fun v_64 ev_64 => ?_)
                  have ev_64 : v_64 = (t.1 15 i) - (t.1 14 0) := ev_64
                  refine lv_lload_n hx hb de_M_table_176 rfl (lv_at hl 5 rfl) ?_
                  refine lv_aload_n hx hb de_M_table_177 rfl (lv_at hl 4 rfl) ?_
                  refine va_get (D := (dC, dI)) (ci := 9) (v := .ref (ad 14)) (C := "StabilitySumsModel") (T := TB_M) (N := 33) hx hb hts ui_M hown hK hP 0 rfl rfl 17 (by decide) (hts _ uw_713) (fun _ h9 => h9) rfl de_M_table_178 ?_
                  refine lv_iload hx hb de_M_table_181 (lv_at hl 3 rfl) ?_
                  refine rw_lald (f := t.1 13) (j := 0) hx hb hK hP 14 0 rfl rfl (by decide) (by decide) de_M_table_183 ?_
                  refine lv_lsub hx hb de_M_table_184 ?_
                  refine lv_topl (fun v_65 ev_65 => ?_)
                  have ev_65 : v_65 = a0 - (t.1 13 0) := ev_65
                  refine lv_lmul hx hb de_M_table_185 ?_
                  refine lv_topl (fun v_66 ev_66 => ?_)
                  have ev_66 : v_66 = v_64 * v_65 := ev_66
                  refine lv_ladd hx hb de_M_table_186 ?_
                  refine lv_topl (fun v_67 ev_67 => ?_)
                  have ev_67 : v_67 = v_63 + v_66 := ev_67
                  refine va_put (D := (dC, dI)) (ci := 9) (v := .long v_67) (ty := .long) (C := "StabilitySumsModel") (T := TB_M) (N := 33) hx hb hts ui_M tt_M tk_M nm_M hown hK hP hD hS 0 rfl rfl 31 (by decide) (hts _ uw_727) (fun _ h9 => h9) rfl (by decide +kernel) rfl rfl (Nat.le_of_ble_eq_true rfl) de_M_table_187 (fun H locs hP hD hS => ?_)
                  have hP : va_P (dC, dI) CLS (wM ad T (sF (sF (sF (sF (sF t 2 0) 3 1) 2 (t.1 14 0)) 3 v_62) 2 v_67)) H := hP
                  have hD : va_D A (wM ad T (sF (sF (sF (sF (sF t 2 0) 3 1) 2 (t.1 14 0)) 3 v_62) 2 v_67)) := hD
                  have hfin : (sF (sF (sF (sF (sF t 2 0) 3 1) 2 (t.1 14 0)) 3 v_62) 2 v_67) = y_tb 15 a0 t := by
                    have hU9 : y_tU 15 t a0 = v_67 := by
                      clear hP hD hS hl hK hN hts hA hown hml hx hb hr hlocks hQ hAe
                      unfold y_tU; simp only [y_one, y_two, hi9]; grind
                    have hD9 : y_tD t a0 = v_62 := by
                      clear hP hD hS hl hK hN hts hA hown hml hx hb hr hlocks hQ hAe
                      unfold y_tD; simp only [y_one, y_two, hi9]; grind
                    unfold y_tb; rw [hU9, hD9]; first | done | simp only [sF_idem, sF_c32]
                  rw [hfin] at hP hD
                  subst hQ
                  exact W.vret hx hb hr (fun t9 ht hW => ⟨⟨(), rfl, trivial, by rw [ht]; exact hP, va_K.moved hW.alike hK, hD⟩, hS.F ht⟩) hS.2.2 de_M_table_190
              · skip
                exact absurd rfl c_60
          · skip
            have c_50 : (t.2.2.2 3) = 0 := (nz0 (by omega)).mp c_50
            have hfin : (sF (sF t 2 0) 3 1) = y_tb 15 a0 t := by
              have hU9 : y_tU 15 t a0 = 0 := by
                clear hP hD hS hl hK hN hts hA hown hml hx hb hr hlocks hQ hAe
                unfold y_tU; simp only [y_one, y_two, hi9]; grind
              have hD9 : y_tD t a0 = 1 := by
                clear hP hD hS hl hK hN hts hA hown hml hx hb hr hlocks hQ hAe
                unfold y_tD; simp only [y_one, y_two, hi9]; grind
              unfold y_tb; rw [hU9, hD9]; first | done | simp only [sF_idem, sF_c32]
            rw [hfin] at hP hD
            subst hQ
            exact W.vret hx hb hr (fun t9 ht hW => ⟨⟨(), rfl, trivial, by rw [ht]; exact hP, va_K.moved hW.alike hK, hD⟩, hS.F ht⟩) hS.2.2 de_M_table_84
        · skip
          have c_49 : i = (t.2.2.2 3) := (nI_eq (a := i) (b := t.2.2.2 3) (by omega) (by omega)).mp c_49
          refine lv_aload_n hx hb de_M_table_54 rfl (lv_at hl 1 rfl) ?_
          refine va_get (D := (dC, dI)) (ci := 9) (v := .int (nI (t.2.2.2 3))) (C := "StabilitySumsModel") (T := TB_M) (N := 33) hx hb hts ui_M hown hK hP 0 rfl rfl 16 (by decide) (hts _ uw_712) (fun _ h9 => h9) rfl de_M_table_55 ?_
          refine lv_iconst (v := 1) hx hb de_M_table_58 (by decide) ?_
          refine lv_isub hx hb de_M_table_59 ?_
          refine lv_topi (fun v_68 ev_68 => ?_)
          have ev_68 : v_68 = (nI ((t.2.2.2 3) - 1)) := ev_68.trans (pk_sub (a := t.2.2.2 3) (b := 1) (by omega))
          subst ev_68
          refine lv_goto (tgt := 65) hx hb de_M_table_60 (by decide) ?_
          refine lv_istore (lv' := [(6, .int (nI ((t.2.2.2 3) - 1))), (5, .int 0), (0, .ref (ad 0)), (1, .long a0), (3, .int 0), (4, .int (nI i))]) hx hb de_M_table_65 hl (by decide) rfl (fun ls hl => ?_)
          refine lv_aload_n hx hb de_M_table_67 rfl (lv_at hl 2 rfl) ?_
          refine lv_lconst (v := 0) hx hb de_M_table_68 (by decide) ?_
          refine va_put (D := (dC, dI)) (ci := 9) (v := .long 0) (ty := .long) (C := "StabilitySumsModel") (T := TB_M) (N := 33) hx hb hts ui_M tt_M tk_M nm_M hown hK hP hD hS 0 rfl rfl 31 (by decide) (hts _ uw_727) (fun _ h9 => h9) rfl (by decide +kernel) rfl rfl (Nat.le_of_ble_eq_true rfl) de_M_table_69 (fun H locs hP hD hS => ?_)
          have hP : va_P (dC, dI) CLS (wM ad T (sF t 2 0)) H := hP
          have hD : va_D A (wM ad T (sF t 2 0)) := hD
          refine lv_aload_n hx hb de_M_table_72 rfl (lv_at hl 2 rfl) ?_
          refine lv_lconst (v := 1) hx hb de_M_table_73 (by decide) ?_
          refine va_put (D := (dC, dI)) (ci := 9) (v := .long 1) (ty := .long) (C := "StabilitySumsModel") (T := TB_M) (N := 33) hx hb hts ui_M tt_M tk_M nm_M hown hK hP hD hS 0 rfl rfl 32 (by decide) (hts _ uw_728) (fun _ h9 => h9) rfl (by decide +kernel) rfl rfl (Nat.le_of_ble_eq_true rfl) de_M_table_74 (fun H locs hP hD hS => ?_)
          have hP : va_P (dC, dI) CLS (wM ad T (sF (sF t 2 0) 3 1)) H := hP
          have hD : va_D A (wM ad T (sF (sF t 2 0) 3 1)) := hD
          refine lv_aload_n hx hb de_M_table_77 rfl (lv_at hl 2 rfl) ?_
          refine va_get (D := (dC, dI)) (ci := 9) (v := .int (nI (t.2.2.2 3))) (C := "StabilitySumsModel") (T := TB_M) (N := 33) hx hb hts ui_M hown hK hP 0 rfl rfl 16 (by decide) (hts _ uw_712) (fun _ h9 => h9) rfl de_M_table_78 ?_
          refine lv_if_ne (tgt := 85) hx hb de_M_table_81 (by decide) (fun c_69 => ?_) (fun c_69 => ?_)
          · skip
            have c_69 : ¬ (t.2.2.2 3) = 0 := fun z => c_69 ((nz0 (by omega)).mpr z)
            refine lv_iload_n hx hb de_M_table_85 rfl (lv_at hl 4 rfl) ?_
            refine lv_if_eq (tgt := 99) hx hb de_M_table_86 (by decide) (fun c_70 => ?_) (fun c_70 => ?_)
            · skip
              refine lv_aload_n hx hb de_M_table_99 rfl (lv_at hl 2 rfl) ?_
              refine va_get (D := (dC, dI)) (ci := 9) (v := .ref (ad 16)) (C := "StabilitySumsModel") (T := TB_M) (N := 33) hx hb hts ui_M hown hK hP 0 rfl rfl 19 (by decide) (hts _ uw_715) (fun _ h9 => h9) rfl de_M_table_100 ?_
              refine lv_iload hx hb de_M_table_103 (lv_at hl 1 rfl) ?_
              refine rw_lald (f := t.1 15) (j := 0) hx hb hK hP 16 0 rfl rfl (by decide) (by decide) de_M_table_105 ?_
              refine lv_lstore (lv' := [(7, .long (t.1 15 0)), (6, .int (nI ((t.2.2.2 3) - 1))), (5, .int 0), (0, .ref (ad 0)), (1, .long a0), (3, .int 0), (4, .int (nI i))]) hx hb de_M_table_106 hl (by decide) rfl (fun ls hl => ?_)
              refine lv_iload_n hx hb de_M_table_108 rfl (lv_at hl 5 rfl) ?_
              refine lv_if_eq (tgt := 122) hx hb de_M_table_109 (by decide) (fun c_71 => ?_) (fun c_71 => ?_)
              · skip
                refine lv_aload_n hx hb de_M_table_122 rfl (lv_at hl 3 rfl) ?_
                refine va_get (D := (dC, dI)) (ci := 9) (v := .ref (ad 16)) (C := "StabilitySumsModel") (T := TB_M) (N := 33) hx hb hts ui_M hown hK hP 0 rfl rfl 19 (by decide) (hts _ uw_715) (fun _ h9 => h9) rfl de_M_table_123 ?_
                refine lv_iload hx hb de_M_table_126 (lv_at hl 1 rfl) ?_
                refine rw_lald (f := t.1 15) (j := ((t.2.2.2 3) - 1)) hx hb hK hP 16 0 rfl rfl (by omega) (by decide) de_M_table_128 ?_
                refine lv_lstore (lv' := [(9, .long (t.1 15 ((t.2.2.2 3) - 1))), (7, .long (t.1 15 0)), (6, .int (nI ((t.2.2.2 3) - 1))), (5, .int 0), (0, .ref (ad 0)), (1, .long a0), (3, .int 0), (4, .int (nI i))]) hx hb de_M_table_129 hl (by decide) rfl (fun ls hl => ?_)
                refine lv_aload_n hx hb de_M_table_131 rfl (lv_at hl 4 rfl) ?_
                refine lv_lload hx hb de_M_table_132 (lv_at hl 1 rfl) ?_
                refine va_put (D := (dC, dI)) (ci := 9) (v := .long (t.1 15 0)) (ty := .long) (C := "StabilitySumsModel") (T := TB_M) (N := 33) hx hb hts ui_M tt_M tk_M nm_M hown hK hP hD hS 0 rfl rfl 31 (by decide) (hts _ uw_727) (fun _ h9 => h9) rfl (by decide +kernel) rfl rfl (Nat.le_of_ble_eq_true rfl) de_M_table_134 (fun H locs hP hD hS => ?_)
                have hP : va_P (dC, dI) CLS (wM ad T (sF (sF (sF t 2 0) 3 1) 2 (t.1 15 0))) H := hP
                have hD : va_D A (wM ad T (sF (sF (sF t 2 0) 3 1) 2 (t.1 15 0))) := hD
                refine lv_iload hx hb de_M_table_137 (lv_at hl 3 rfl) ?_
                refine lv_iload hx hb de_M_table_139 (lv_at hl 2 rfl) ?_
                refine lv_icmp_eq (tgt := 190) hx hb de_M_table_141 (by decide) (fun c_72 => ?_) (fun c_72 => ?_)
                · skip
                  have c_72 : 0 = ((t.2.2.2 3) - 1) := (nI_eq (a := 0) (b := (t.2.2.2 3) - 1) (by omega) (by omega)).mp c_72
                  have hfin : (sF (sF (sF t 2 0) 3 1) 2 (t.1 15 0)) = y_tb 15 a0 t := by
                    have hU9 : y_tU 15 t a0 = (t.1 15 0) := by
                      clear hP hD hS hl hK hN hts hA hown hml hx hb hr hlocks hQ hAe
                      unfold y_tU; simp only [y_one, y_two, hi9]; grind
                    have hD9 : y_tD t a0 = 1 := by
                      clear hP hD hS hl hK hN hts hA hown hml hx hb hr hlocks hQ hAe
                      unfold y_tD; simp only [y_one, y_two, hi9]; grind
                    unfold y_tb; rw [hU9, hD9]; first | done | simp only [sF_idem, sF_c32]
                  rw [hfin] at hP hD
                  subst hQ
                  exact W.vret hx hb hr (fun t9 ht hW => ⟨⟨(), rfl, trivial, by rw [ht]; exact hP, va_K.moved hW.alike hK, hD⟩, hS.F ht⟩) hS.2.2 de_M_table_190
                · skip
                  have c_72 : ¬ (0 = ((t.2.2.2 3) - 1)) := fun z => c_72 ((nI_eq (a := 0) (b := (t.2.2.2 3) - 1) (by omega) (by omega)).mpr z)
                  refine lv_aload_n hx hb de_M_table_144 rfl (lv_at hl 4 rfl) ?_
                  refine lv_aload_n hx hb de_M_table_145 rfl (lv_at hl 4 rfl) ?_
                  refine va_get (D := (dC, dI)) (ci := 9) (v := .ref (ad 14)) (C := "StabilitySumsModel") (T := TB_M) (N := 33) hx hb hts ui_M hown hK hP 0 rfl rfl 17 (by decide) (hts _ uw_713) (fun _ h9 => h9) rfl de_M_table_146 ?_
                  refine lv_iload hx hb de_M_table_149 (lv_at hl 2 rfl) ?_
                  refine rw_lald (f := t.1 13) (j := ((t.2.2.2 3) - 1)) hx hb hK hP 14 0 rfl rfl (by omega) (by decide) de_M_table_151 ?_
                  refine lv_aload_n hx hb de_M_table_152 rfl (lv_at hl 4 rfl) ?_
                  refine va_get (D := (dC, dI)) (ci := 9) (v := .ref (ad 14)) (C := "StabilitySumsModel") (T := TB_M) (N := 33) hx hb hts ui_M hown hK hP 0 rfl rfl 17 (by decide) (hts _ uw_713) (fun _ h9 => h9) rfl de_M_table_153 ?_
                  refine lv_iload hx hb de_M_table_156 (lv_at hl 3 rfl) ?_
                  refine rw_lald (f := t.1 13) (j := 0) hx hb hK hP 14 0 rfl rfl (by decide) (by decide) de_M_table_158 ?_
                  refine lv_lsub hx hb de_M_table_159 ?_
                  refine lv_topl (fun v_73 ev_73 => ?_)
                  have ev_73 : v_73 = (t.1 13 ((t.2.2.2 3) - 1)) - (t.1 13 0) := ev_73
                  refine va_put (D := (dC, dI)) (ci := 9) (v := .long v_73) (ty := .long) (C := "StabilitySumsModel") (T := TB_M) (N := 33) hx hb hts ui_M tt_M tk_M nm_M hown hK hP hD hS 0 rfl rfl 32 (by decide) (hts _ uw_728) (fun _ h9 => h9) rfl (by decide +kernel) rfl rfl (Nat.le_of_ble_eq_true rfl) de_M_table_160 (fun H locs hP hD hS => ?_)
                  have hP : va_P (dC, dI) CLS (wM ad T (sF (sF (sF (sF t 2 0) 3 1) 2 (t.1 15 0)) 3 v_73)) H := hP
                  have hD : va_D A (wM ad T (sF (sF (sF (sF t 2 0) 3 1) 2 (t.1 15 0)) 3 v_73)) := hD
                  refine lv_aload_n hx hb de_M_table_163 rfl (lv_at hl 4 rfl) ?_
                  refine lv_lload hx hb de_M_table_164 (lv_at hl 1 rfl) ?_
                  refine lv_aload_n hx hb de_M_table_166 rfl (lv_at hl 4 rfl) ?_
                  refine va_get (D := (dC, dI)) (ci := 9) (v := .long v_73) (C := "StabilitySumsModel") (T := TB_M) (N := 33) hx hb hts ui_M hown hK hP 0 rfl rfl 32 (by decide) (hts _ uw_728) (fun _ h9 => h9) rfl de_M_table_167 ?_
                  refine lv_lmul hx hb de_M_table_170 ?_
                  refine lv_topl (fun v_74 ev_74 => ?_)
                  have ev_74 : v_74 = (t.1 15 0) * v_73 := ev_74
                  refine lv_lload hx hb de_M_table_171 (lv_at hl 0 rfl) ?_
                  refine lv_lload hx hb de_M_table_173 (lv_at hl 1 rfl) ?_
                  refine lv_lsub hx hb de_M_table_175 ?_
                  refine lv_topl (fun v_75 ev_75 => ?_)
                  have ev_75 : v_75 = (t.1 15 ((t.2.2.2 3) - 1)) - (t.1 15 0) := ev_75
                  refine lv_lload_n hx hb de_M_table_176 rfl (lv_at hl 5 rfl) ?_
                  refine lv_aload_n hx hb de_M_table_177 rfl (lv_at hl 4 rfl) ?_
                  refine va_get (D := (dC, dI)) (ci := 9) (v := .ref (ad 14)) (C := "StabilitySumsModel") (T := TB_M) (N := 33) hx hb hts ui_M hown hK hP 0 rfl rfl 17 (by decide) (hts _ uw_713) (fun _ h9 => h9) rfl de_M_table_178 ?_
                  refine lv_iload hx hb de_M_table_181 (lv_at hl 3 rfl) ?_
                  refine rw_lald (f := t.1 13) (j := 0) hx hb hK hP 14 0 rfl rfl (by decide) (by decide) de_M_table_183 ?_
                  refine lv_lsub hx hb de_M_table_184 ?_
                  refine lv_topl (fun v_76 ev_76 => ?_)
                  have ev_76 : v_76 = a0 - (t.1 13 0) := ev_76
                  refine lv_lmul hx hb de_M_table_185 ?_
                  refine lv_topl (fun v_77 ev_77 => ?_)
                  have ev_77 : v_77 = v_75 * v_76 := ev_77
                  refine lv_ladd hx hb de_M_table_186 ?_
                  refine lv_topl (fun v_78 ev_78 => ?_)
                  have ev_78 : v_78 = v_74 + v_77 := ev_78
                  refine va_put (D := (dC, dI)) (ci := 9) (v := .long v_78) (ty := .long) (C := "StabilitySumsModel") (T := TB_M) (N := 33) hx hb hts ui_M tt_M tk_M nm_M hown hK hP hD hS 0 rfl rfl 31 (by decide) (hts _ uw_727) (fun _ h9 => h9) rfl (by decide +kernel) rfl rfl (Nat.le_of_ble_eq_true rfl) de_M_table_187 (fun H locs hP hD hS => ?_)
                  have hP : va_P (dC, dI) CLS (wM ad T (sF (sF (sF (sF (sF t 2 0) 3 1) 2 (t.1 15 0)) 3 v_73) 2 v_78)) H := hP
                  have hD : va_D A (wM ad T (sF (sF (sF (sF (sF t 2 0) 3 1) 2 (t.1 15 0)) 3 v_73) 2 v_78)) := hD
                  have hfin : (sF (sF (sF (sF (sF t 2 0) 3 1) 2 (t.1 15 0)) 3 v_73) 2 v_78) = y_tb 15 a0 t := by
                    have hU9 : y_tU 15 t a0 = v_78 := by
                      clear hP hD hS hl hK hN hts hA hown hml hx hb hr hlocks hQ hAe
                      unfold y_tU; simp only [y_one, y_two, hi9]; grind
                    have hD9 : y_tD t a0 = v_73 := by
                      clear hP hD hS hl hK hN hts hA hown hml hx hb hr hlocks hQ hAe
                      unfold y_tD; simp only [y_one, y_two, hi9]; grind
                    unfold y_tb; rw [hU9, hD9]; first | done | simp only [sF_idem, sF_c32]
                  rw [hfin] at hP hD
                  subst hQ
                  exact W.vret hx hb hr (fun t9 ht hW => ⟨⟨(), rfl, trivial, by rw [ht]; exact hP, va_K.moved hW.alike hK, hD⟩, hS.F ht⟩) hS.2.2 de_M_table_190
              · skip
                exact absurd rfl c_71
            · skip
              refine lv_aload_n hx hb de_M_table_89 rfl (lv_at hl 2 rfl) ?_
              refine va_get (D := (dC, dI)) (ci := 9) (v := .ref (ad 15)) (C := "StabilitySumsModel") (T := TB_M) (N := 33) hx hb hts ui_M hown hK hP 0 rfl rfl 18 (by decide) (hts _ uw_714) (fun _ h9 => h9) rfl de_M_table_90 ?_
              refine lv_iload hx hb de_M_table_93 (lv_at hl 1 rfl) ?_
              refine rw_lald (f := t.1 14) (j := 0) hx hb hK hP 15 0 rfl rfl (by decide) (by decide) de_M_table_95 ?_
              refine lv_goto (tgt := 106) hx hb de_M_table_96 (by decide) ?_
              refine lv_lstore (lv' := [(7, .long (t.1 14 0)), (6, .int (nI ((t.2.2.2 3) - 1))), (5, .int 0), (0, .ref (ad 0)), (1, .long a0), (3, .int 0), (4, .int (nI i))]) hx hb de_M_table_106 hl (by decide) rfl (fun ls hl => ?_)
              refine lv_iload_n hx hb de_M_table_108 rfl (lv_at hl 5 rfl) ?_
              refine lv_if_eq (tgt := 122) hx hb de_M_table_109 (by decide) (fun c_79 => ?_) (fun c_79 => ?_)
              · skip
                refine lv_aload_n hx hb de_M_table_122 rfl (lv_at hl 3 rfl) ?_
                refine va_get (D := (dC, dI)) (ci := 9) (v := .ref (ad 16)) (C := "StabilitySumsModel") (T := TB_M) (N := 33) hx hb hts ui_M hown hK hP 0 rfl rfl 19 (by decide) (hts _ uw_715) (fun _ h9 => h9) rfl de_M_table_123 ?_
                refine lv_iload hx hb de_M_table_126 (lv_at hl 1 rfl) ?_
                refine rw_lald (f := t.1 15) (j := ((t.2.2.2 3) - 1)) hx hb hK hP 16 0 rfl rfl (by omega) (by decide) de_M_table_128 ?_
                refine lv_lstore (lv' := [(9, .long (t.1 15 ((t.2.2.2 3) - 1))), (7, .long (t.1 14 0)), (6, .int (nI ((t.2.2.2 3) - 1))), (5, .int 0), (0, .ref (ad 0)), (1, .long a0), (3, .int 0), (4, .int (nI i))]) hx hb de_M_table_129 hl (by decide) rfl (fun ls hl => ?_)
                refine lv_aload_n hx hb de_M_table_131 rfl (lv_at hl 4 rfl) ?_
                refine lv_lload hx hb de_M_table_132 (lv_at hl 1 rfl) ?_
                refine va_put (D := (dC, dI)) (ci := 9) (v := .long (t.1 14 0)) (ty := .long) (C := "StabilitySumsModel") (T := TB_M) (N := 33) hx hb hts ui_M tt_M tk_M nm_M hown hK hP hD hS 0 rfl rfl 31 (by decide) (hts _ uw_727) (fun _ h9 => h9) rfl (by decide +kernel) rfl rfl (Nat.le_of_ble_eq_true rfl) de_M_table_134 (fun H locs hP hD hS => ?_)
                have hP : va_P (dC, dI) CLS (wM ad T (sF (sF (sF t 2 0) 3 1) 2 (t.1 14 0))) H := hP
                have hD : va_D A (wM ad T (sF (sF (sF t 2 0) 3 1) 2 (t.1 14 0))) := hD
                refine lv_iload hx hb de_M_table_137 (lv_at hl 3 rfl) ?_
                refine lv_iload hx hb de_M_table_139 (lv_at hl 2 rfl) ?_
                refine lv_icmp_eq (tgt := 190) hx hb de_M_table_141 (by decide) (fun c_80 => ?_) (fun c_80 => ?_)
                · skip
                  have c_80 : 0 = ((t.2.2.2 3) - 1) := (nI_eq (a := 0) (b := (t.2.2.2 3) - 1) (by omega) (by omega)).mp c_80
                  have hfin : (sF (sF (sF t 2 0) 3 1) 2 (t.1 14 0)) = y_tb 15 a0 t := by
                    have hU9 : y_tU 15 t a0 = (t.1 14 0) := by
                      clear hP hD hS hl hK hN hts hA hown hml hx hb hr hlocks hQ hAe
                      unfold y_tU; simp only [y_one, y_two, hi9]; grind
                    have hD9 : y_tD t a0 = 1 := by
                      clear hP hD hS hl hK hN hts hA hown hml hx hb hr hlocks hQ hAe
                      unfold y_tD; simp only [y_one, y_two, hi9]; grind
                    unfold y_tb; rw [hU9, hD9]; first | done | simp only [sF_idem, sF_c32]
                  rw [hfin] at hP hD
                  subst hQ
                  exact W.vret hx hb hr (fun t9 ht hW => ⟨⟨(), rfl, trivial, by rw [ht]; exact hP, va_K.moved hW.alike hK, hD⟩, hS.F ht⟩) hS.2.2 de_M_table_190
                · skip
                  have c_80 : ¬ (0 = ((t.2.2.2 3) - 1)) := fun z => c_80 ((nI_eq (a := 0) (b := (t.2.2.2 3) - 1) (by omega) (by omega)).mpr z)
                  refine lv_aload_n hx hb de_M_table_144 rfl (lv_at hl 4 rfl) ?_
                  refine lv_aload_n hx hb de_M_table_145 rfl (lv_at hl 4 rfl) ?_
                  refine va_get (D := (dC, dI)) (ci := 9) (v := .ref (ad 14)) (C := "StabilitySumsModel") (T := TB_M) (N := 33) hx hb hts ui_M hown hK hP 0 rfl rfl 17 (by decide) (hts _ uw_713) (fun _ h9 => h9) rfl de_M_table_146 ?_
                  refine lv_iload hx hb de_M_table_149 (lv_at hl 2 rfl) ?_
                  refine rw_lald (f := t.1 13) (j := ((t.2.2.2 3) - 1)) hx hb hK hP 14 0 rfl rfl (by omega) (by decide) de_M_table_151 ?_
                  refine lv_aload_n hx hb de_M_table_152 rfl (lv_at hl 4 rfl) ?_
                  refine va_get (D := (dC, dI)) (ci := 9) (v := .ref (ad 14)) (C := "StabilitySumsModel") (T := TB_M) (N := 33) hx hb hts ui_M hown hK hP 0 rfl rfl 17 (by decide) (hts _ uw_713) (fun _ h9 => h9) rfl de_M_table_153 ?_
                  refine lv_iload hx hb de_M_table_156 (lv_at hl 3 rfl) ?_
                  refine rw_lald (f := t.1 13) (j := 0) hx hb hK hP 14 0 rfl rfl (by decide) (by decide) de_M_table_158 ?_
                  refine lv_lsub hx hb de_M_table_159 ?_
                  refine lv_topl (fun v_81 ev_81 => ?_)
                  have ev_81 : v_81 = (t.1 13 ((t.2.2.2 3) - 1)) - (t.1 13 0) := ev_81
                  refine va_put (D := (dC, dI)) (ci := 9) (v := .long v_81) (ty := .long) (C := "StabilitySumsModel") (T := TB_M) (N := 33) hx hb hts ui_M tt_M tk_M nm_M hown hK hP hD hS 0 rfl rfl 32 (by decide) (hts _ uw_728) (fun _ h9 => h9) rfl (by decide +kernel) rfl rfl (Nat.le_of_ble_eq_true rfl) de_M_table_160 (fun H locs hP hD hS => ?_)
                  have hP : va_P (dC, dI) CLS (wM ad T (sF (sF (sF (sF t 2 0) 3 1) 2 (t.1 14 0)) 3 v_81)) H := hP
                  have hD : va_D A (wM ad T (sF (sF (sF (sF t 2 0) 3 1) 2 (t.1 14 0)) 3 v_81)) := hD
                  refine lv_aload_n hx hb de_M_table_163 rfl (lv_at hl 4 rfl) ?_
                  refine lv_lload hx hb de_M_table_164 (lv_at hl 1 rfl) ?_
                  refine lv_aload_n hx hb de_M_table_166 rfl (lv_at hl 4 rfl) ?_
                  refine va_get (D := (dC, dI)) (ci := 9) (v := .long v_81) (C := "StabilitySumsModel") (T := TB_M) (N := 33) hx hb hts ui_M hown hK hP 0 rfl rfl 32 (by decide) (hts _ uw_728) (fun _ h9 => h9) rfl de_M_table_167 ?_
                  refine lv_lmul hx hb de_M_table_170 ?_
                  refine lv_topl (fun v_82 ev_82 => ?_)
                  have ev_82 : v_82 = (t.1 14 0) * v_81 := ev_82
                  refine lv_lload hx hb de_M_table_171 (lv_at hl 0 rfl) ?_
                  refine lv_lload hx hb de_M_table_173 (lv_at hl 1 rfl) ?_
                  refine lv_lsub hx hb de_M_table_175 ?_
                  refine lv_topl (fun v_83 ev_83 => ?_)
                  have ev_83 : v_83 = (t.1 15 ((t.2.2.2 3) - 1)) - (t.1 14 0) := ev_83
                  refine lv_lload_n hx hb de_M_table_176 rfl (lv_at hl 5 rfl) ?_
                  refine lv_aload_n hx hb de_M_table_177 rfl (lv_at hl 4 rfl) ?_
                  refine va_get (D := (dC, dI)) (ci := 9) (v := .ref (ad 14)) (C := "StabilitySumsModel") (T := TB_M) (N := 33) hx hb hts ui_M hown hK hP 0 rfl rfl 17 (by decide) (hts _ uw_713) (fun _ h9 => h9) rfl de_M_table_178 ?_
                  refine lv_iload hx hb de_M_table_181 (lv_at hl 3 rfl) ?_
                  refine rw_lald (f := t.1 13) (j := 0) hx hb hK hP 14 0 rfl rfl (by decide) (by decide) de_M_table_183 ?_
                  refine lv_lsub hx hb de_M_table_184 ?_
                  refine lv_topl (fun v_84 ev_84 => ?_)
                  have ev_84 : v_84 = a0 - (t.1 13 0) := ev_84
                  refine lv_lmul hx hb de_M_table_185 ?_
                  refine lv_topl (fun v_85 ev_85 => ?_)
                  have ev_85 : v_85 = v_83 * v_84 := ev_85
                  refine lv_ladd hx hb de_M_table_186 ?_
                  refine lv_topl (fun v_86 ev_86 => ?_)
                  have ev_86 : v_86 = v_82 + v_85 := ev_86
                  refine va_put (D := (dC, dI)) (ci := 9) (v := .long v_86) (ty := .long) (C := "StabilitySumsModel") (T := TB_M) (N := 33) hx hb hts ui_M tt_M tk_M nm_M hown hK hP hD hS 0 rfl rfl 31 (by decide) (hts _ uw_727) (fun _ h9 => h9) rfl (by decide +kernel) rfl rfl (Nat.le_of_ble_eq_true rfl) de_M_table_187 (fun H locs hP hD hS => ?_)
                  have hP : va_P (dC, dI) CLS (wM ad T (sF (sF (sF (sF (sF t 2 0) 3 1) 2 (t.1 14 0)) 3 v_81) 2 v_86)) H := hP
                  have hD : va_D A (wM ad T (sF (sF (sF (sF (sF t 2 0) 3 1) 2 (t.1 14 0)) 3 v_81) 2 v_86)) := hD
                  have hfin : (sF (sF (sF (sF (sF t 2 0) 3 1) 2 (t.1 14 0)) 3 v_81) 2 v_86) = y_tb 15 a0 t := by
                    have hU9 : y_tU 15 t a0 = v_86 := by
                      clear hP hD hS hl hK hN hts hA hown hml hx hb hr hlocks hQ hAe
                      unfold y_tU; simp only [y_one, y_two, hi9]; grind
                    have hD9 : y_tD t a0 = v_81 := by
                      clear hP hD hS hl hK hN hts hA hown hml hx hb hr hlocks hQ hAe
                      unfold y_tD; simp only [y_one, y_two, hi9]; grind
                    unfold y_tb; rw [hU9, hD9]; first | done | simp only [sF_idem, sF_c32]
                  rw [hfin] at hP hD
                  subst hQ
                  exact W.vret hx hb hr (fun t9 ht hW => ⟨⟨(), rfl, trivial, by rw [ht]; exact hP, va_K.moved hW.alike hK, hD⟩, hS.F ht⟩) hS.2.2 de_M_table_190
              · skip
                exact absurd rfl c_79
          · skip
            have c_69 : (t.2.2.2 3) = 0 := (nz0 (by omega)).mp c_69
            have hfin : (sF (sF t 2 0) 3 1) = y_tb 15 a0 t := by
              have hU9 : y_tU 15 t a0 = 0 := by
                clear hP hD hS hl hK hN hts hA hown hml hx hb hr hlocks hQ hAe
                unfold y_tU; simp only [y_one, y_two, hi9]; grind
              have hD9 : y_tD t a0 = 1 := by
                clear hP hD hS hl hK hN hts hA hown hml hx hb hr hlocks hQ hAe
                unfold y_tD; simp only [y_one, y_two, hi9]; grind
              unfold y_tb; rw [hU9, hD9]; first | done | simp only [sF_idem, sF_c32]
            rw [hfin] at hP hD
            subst hQ
            exact W.vret hx hb hr (fun t9 ht hW => ⟨⟨(), rfl, trivial, by rw [ht]; exact hP, va_K.moved hW.alike hK, hD⟩, hS.F ht⟩) hS.2.2 de_M_table_84
  refine lv_iconst (v := 0) hx hb de_M_table_0 (by decide) ?_
  refine lv_istore (lv' := [(4, .int 0), (0, .ref (ad 0)), (1, .long a0), (3, .int 0)]) hx hb de_M_table_1 hl (by decide) rfl (fun ls hl => ?_)
  have loop_3 : ∀ (n : Nat) (i : Nat), (i + n = t.2.2.2 3) → (y_abv t.1 a0 n i = y_k t a0) → ∀ (H : Heap) (locs : List Loc) (ls : Array Slot), va_P (dC, dI) CLS (wM ad T t) H → va_D A (wM ad T t) → va_S A s.heap H locs → lv_has ls 11 [(0, .ref (ad 0)), (1, .long a0), (3, .int 0), (4, .int (nI i))] → W p l e (headSpec (.code yn_M_table cd_M_table 11 none :: UW) ({ frames := 0, cells := 0, slots := 0, locals := 0 } : Room)).room s m ([.ref (ad 0), .long a0, .int 0] : List Value).toArray below meth c H locs 0 0 Q (F0 m 3 ls []) := by
    intro n
    induction n with
    | zero =>
      intro i hi hq H locs ls hP hD hS hl
      refine lv_iload hx hb de_M_table_3 (lv_at hl 3 rfl) ?_
      refine lv_aload_n hx hb de_M_table_5 rfl (lv_at hl 0 rfl) ?_
      refine va_get (D := (dC, dI)) (ci := 9) (v := .int (nI (t.2.2.2 3))) (C := "StabilitySumsModel") (T := TB_M) (N := 33) hx hb hts ui_M hown hK hP 0 rfl rfl 16 (by decide) (hts _ uw_712) (fun _ h9 => h9) rfl de_M_table_6 ?_
      refine lv_icmp_ge (tgt := 30) hx hb de_M_table_9 (by decide) (fun c_87 => ?_) (fun c_87 => ?_)
      · skip
        have c_87 : (t.2.2.2 3) ≤ i := (nI_leI (a := t.2.2.2 3) (b := i) (by omega) (by omega)).mp c_87
        exact join_30 i (by rw [← hq]; first | rfl | (rw [y_abv, if_pos c_87])) (by omega) _ _ ls hP hD hS (lv_sub hl [0, 1, 2, 3] rfl)
      · skip
        have c_87 : ¬ ((t.2.2.2 3) ≤ i) := fun z => c_87 ((nI_leI (a := t.2.2.2 3) (b := i) (by omega) (by omega)).mpr z)
        exfalso; omega
    | succ n ih =>
      intro i hi hq H locs ls hP hD hS hl
      refine lv_iload hx hb de_M_table_3 (lv_at hl 3 rfl) ?_
      refine lv_aload_n hx hb de_M_table_5 rfl (lv_at hl 0 rfl) ?_
      refine va_get (D := (dC, dI)) (ci := 9) (v := .int (nI (t.2.2.2 3))) (C := "StabilitySumsModel") (T := TB_M) (N := 33) hx hb hts ui_M hown hK hP 0 rfl rfl 16 (by decide) (hts _ uw_712) (fun _ h9 => h9) rfl de_M_table_6 ?_
      refine lv_icmp_ge (tgt := 30) hx hb de_M_table_9 (by decide) (fun c_88 => ?_) (fun c_88 => ?_)
      · skip
        have c_88 : (t.2.2.2 3) ≤ i := (nI_leI (a := t.2.2.2 3) (b := i) (by omega) (by omega)).mp c_88
        exfalso; omega
      · skip
        have c_88 : ¬ ((t.2.2.2 3) ≤ i) := fun z => c_88 ((nI_leI (a := t.2.2.2 3) (b := i) (by omega) (by omega)).mpr z)
        refine lv_aload_n hx hb de_M_table_12 rfl (lv_at hl 0 rfl) ?_
        refine va_get (D := (dC, dI)) (ci := 9) (v := .ref (ad 14)) (C := "StabilitySumsModel") (T := TB_M) (N := 33) hx hb hts ui_M hown hK hP 0 rfl rfl 17 (by decide) (hts _ uw_713) (fun _ h9 => h9) rfl de_M_table_13 ?_
        refine lv_iload hx hb de_M_table_16 (lv_at hl 3 rfl) ?_
        refine rw_lald (f := t.1 13) (j := i) hx hb hK hP 14 0 rfl rfl (by omega) (by decide) de_M_table_18 ?_
        refine lv_lload_n hx hb de_M_table_19 rfl (lv_at hl 1 rfl) ?_
        refine rw_ge (tgt := 30) hx hb de_M_table_20 de_M_table_21 (by decide) (fun c_89 => ?_) (fun c_89 => ?_)
        · skip
          exact join_30 i (by rw [← hq]; first | rfl | (rw [y_abv, if_pos c_89])) (by omega) _ _ ls hP hD hS (lv_sub hl [0, 1, 2, 3] rfl)
        · skip
          refine lv_iinc (v := (nI (i + 1))) (lv' := [(4, .int (nI (i + 1))), (0, .ref (ad 0)), (1, .long a0), (3, .int 0)]) hx hb de_M_table_24 hl (k := 3) rfl (nI_1 i) (by decide) rfl (fun ls hl => ?_)
          refine lv_goto (tgt := 3) hx hb de_M_table_27 (by decide) ?_
          exact ih (i + 1) (by omega) (by rw [← hq, y_abv, if_neg c_89]) H locs ls hP hD hS (lv_sub hl [1, 2, 3, 0] rfl)
  exact loop_3 (t.2.2.2 3) 0 (by omega) rfl _ _ ls hP hD hS (lv_sub hl [1, 2, 3, 0] rfl)
set_option maxHeartbeats 4000000 in
set_option maxRecDepth 100000 in
theorem mt_M_table1 (l : Launch) (dC : Nat → ClassId) (dI : Nat → Nat → Nat) (ad : Nat → Nat) (T : Nat → ClassId) (t : St) (a0 : Int64) (hI : IvM t) (sz : Nat) : Met l yn_M_table (.code yn_M_table cd_M_table 11 none :: UW) ({ frames := 0, cells := 0, slots := 0, locals := 0 } : Room) (va_Pc [.ref (ad 0), .long a0, .int 1] (Pw (dC, dI) CLS (TY T) (wM ad T t) sz)) (va_Qv (fun _ : Unit => True) (Bw (dC, dI) CLS (TY T) (fun _ : Unit => (wM ad T (y_tb 14 a0 t))) (va_A (wM ad T t) sz)) (va_A (wM ad T t) sz)) 0 0 (va_A (wM ad T t) sz) := by
  refine Met.ofW (cc := cd_M_table) (maxL := 11) (ret := none) (by decide) rfl ?_
  intro p e s m args below meth c s₁ B hml hv
  obtain ⟨rfl, hsz, hP, hK, hD0, hN⟩ := hv
  have hx := B.exec
  have hb := B.bytes
  have hr := B.returns
  have hts : ∀ w ∈ UW, w.before _ s = true := fun w h => atoms_spec (ws := .code yn_M_table cd_M_table 11 none :: UW) B.pre w (List.mem_cons_of_mem _ h)
  have hown : s.vm.findClass "StabilitySumsModel" = some m.cls := findClass_of_methodNamed B.named
  have hlocks := B.notSynchronized
  subst hsz
  have hD := hD0.self (sz := s.heap.size)
  generalize hAe : va_A (wM ad T t) s.heap.size = A at hD ⊢
  have hA : ∀ q : Nat, s.heap.size ≤ q → A q := fun q h => by rw [← hAe]; exact Or.inr h
  have hS : va_S A s.heap s.heap [] := va_S.rf
  have hl := lv_entry ([.ref (ad 0), .long a0, .int 1]) (n := 11) (Nat.le_of_ble_eq_true rfl)
  rw [lg_entry_eq]
  generalize (lg_sl ([.ref (ad 0), .long a0, .int 1]) ++ List.replicate (11 - (lg_sl ([.ref (ad 0), .long a0, .int 1])).length) Slot.unset).toArray = ls at hl ⊢
  have hl : lv_has ls 11 [(0, .ref (ad 0)), (1, .long a0), (3, .int 1)] := hl
  generalize hQ : MQ below _ _ s 0 0 A = Q
  obtain ⟨hI1, hI2, hI3, hI4, hI5⟩ := hI
  have join_30 : ∀ (i : Nat), (y_k t a0 = i) → (i ≤ t.2.2.2 3) → ∀ (H : Heap) (locs : List Loc) (ls : Array Slot), va_P (dC, dI) CLS (wM ad T t) H → va_D A (wM ad T t) → va_S A s.heap H locs → lv_has ls 11 [(0, .ref (ad 0)), (1, .long a0), (3, .int 1), (4, .int (nI i))] → W p l e (headSpec (.code yn_M_table cd_M_table 11 none :: UW) ({ frames := 0, cells := 0, slots := 0, locals := 0 } : Room)).room s m ([.ref (ad 0), .long a0, .int 1] : List Value).toArray below meth c H locs 0 0 Q (F0 m 30 ls []) := by
    intro i hi9 hi8 H locs ls hP hD hS hl
    by_cases h0 : t.2.2.2 3 = 0
    · skip
      refine lv_iload hx hb de_M_table_30 (lv_at hl 3 rfl) ?_
      refine lv_if_ne (tgt := 39) hx hb de_M_table_32 (by decide) (fun c_1 => ?_) (fun c_1 => ?_)
      · skip
        have c_1 : ¬ i = 0 := fun z => c_1 ((nz0 (by omega)).mpr z)
        refine lv_iload hx hb de_M_table_39 (lv_at hl 3 rfl) ?_
        refine lv_iconst (v := 1) hx hb de_M_table_41 (by decide) ?_
        refine lv_isub hx hb de_M_table_42 ?_
        refine lv_topi (fun v_2 ev_2 => ?_)
        have ev_2 : v_2 = (nI (i - 1)) := ev_2.trans (pk_sub (a := i) (b := 1) (by omega))
        subst ev_2
        refine lv_istore (lv' := [(5, .int (nI (i - 1))), (0, .ref (ad 0)), (1, .long a0), (3, .int 1), (4, .int (nI i))]) hx hb de_M_table_43 hl (by decide) rfl (fun ls hl => ?_)
        refine lv_iload hx hb de_M_table_45 (lv_at hl 4 rfl) ?_
        refine lv_aload_n hx hb de_M_table_47 rfl (lv_at hl 1 rfl) ?_
        refine va_get (D := (dC, dI)) (ci := 9) (v := .int (nI (t.2.2.2 3))) (C := "StabilitySumsModel") (T := TB_M) (N := 33) hx hb hts ui_M hown hK hP 0 rfl rfl 16 (by decide) (hts _ uw_712) (fun _ h9 => h9) rfl de_M_table_48 ?_
        refine lv_icmp_ne (tgt := 63) hx hb de_M_table_51 (by decide) (fun c_3 => ?_) (fun c_3 => ?_)
        · skip
          have c_3 : ¬ (i = (t.2.2.2 3)) := fun z => c_3 ((nI_eq (a := i) (b := t.2.2.2 3) (by omega) (by omega)).mpr z)
          refine lv_iload hx hb de_M_table_63 (lv_at hl 4 rfl) ?_
          refine lv_istore (lv' := [(6, .int (nI i)), (5, .int (nI (i - 1))), (0, .ref (ad 0)), (1, .long a0), (3, .int 1), (4, .int (nI i))]) hx hb de_M_table_65 hl (by decide) rfl (fun ls hl => ?_)
          refine lv_aload_n hx hb de_M_table_67 rfl (lv_at hl 2 rfl) ?_
          refine lv_lconst (v := 0) hx hb de_M_table_68 (by decide) ?_
          refine va_put (D := (dC, dI)) (ci := 9) (v := .long 0) (ty := .long) (C := "StabilitySumsModel") (T := TB_M) (N := 33) hx hb hts ui_M tt_M tk_M nm_M hown hK hP hD hS 0 rfl rfl 31 (by decide) (hts _ uw_727) (fun _ h9 => h9) rfl (by decide +kernel) rfl rfl (Nat.le_of_ble_eq_true rfl) de_M_table_69 (fun H locs hP hD hS => ?_)
          have hP : va_P (dC, dI) CLS (wM ad T (sF t 2 0)) H := hP
          have hD : va_D A (wM ad T (sF t 2 0)) := hD
          refine lv_aload_n hx hb de_M_table_72 rfl (lv_at hl 2 rfl) ?_
          refine lv_lconst (v := 1) hx hb de_M_table_73 (by decide) ?_
          refine va_put (D := (dC, dI)) (ci := 9) (v := .long 1) (ty := .long) (C := "StabilitySumsModel") (T := TB_M) (N := 33) hx hb hts ui_M tt_M tk_M nm_M hown hK hP hD hS 0 rfl rfl 32 (by decide) (hts _ uw_728) (fun _ h9 => h9) rfl (by decide +kernel) rfl rfl (Nat.le_of_ble_eq_true rfl) de_M_table_74 (fun H locs hP hD hS => ?_)
          have hP : va_P (dC, dI) CLS (wM ad T (sF (sF t 2 0) 3 1)) H := hP
          have hD : va_D A (wM ad T (sF (sF t 2 0) 3 1)) := hD
          refine lv_aload_n hx hb de_M_table_77 rfl (lv_at hl 2 rfl) ?_
          refine va_get (D := (dC, dI)) (ci := 9) (v := .int (nI (t.2.2.2 3))) (C := "StabilitySumsModel") (T := TB_M) (N := 33) hx hb hts ui_M hown hK hP 0 rfl rfl 16 (by decide) (hts _ uw_712) (fun _ h9 => h9) rfl de_M_table_78 ?_
          refine lv_if_ne (tgt := 85) hx hb de_M_table_81 (by decide) (fun c_4 => ?_) (fun c_4 => ?_)
          · skip
            have c_4 : ¬ (t.2.2.2 3) = 0 := fun z => c_4 ((nz0 (by omega)).mpr z)
            exact absurd h0 c_4
          · skip
            have c_4 : (t.2.2.2 3) = 0 := (nz0 (by omega)).mp c_4
            have hfin : (sF (sF t 2 0) 3 1) = y_tb 14 a0 t := by
              have hU9 : y_tU 14 t a0 = 0 := by
                clear hP hD hS hl hK hN hts hA hown hml hx hb hr hlocks hQ hAe
                unfold y_tU; simp only [y_one, y_two, hi9]; grind
              have hD9 : y_tD t a0 = 1 := by
                clear hP hD hS hl hK hN hts hA hown hml hx hb hr hlocks hQ hAe
                unfold y_tD; simp only [y_one, y_two, hi9]; grind
              unfold y_tb; rw [hU9, hD9]; first | done | simp only [sF_idem, sF_c32]
            rw [hfin] at hP hD
            subst hQ
            exact W.vret hx hb hr (fun t9 ht hW => ⟨⟨(), rfl, trivial, by rw [ht]; exact hP, va_K.moved hW.alike hK, hD⟩, hS.F ht⟩) hS.2.2 de_M_table_84
        · skip
          have c_3 : i = (t.2.2.2 3) := (nI_eq (a := i) (b := t.2.2.2 3) (by omega) (by omega)).mp c_3
          refine lv_aload_n hx hb de_M_table_54 rfl (lv_at hl 1 rfl) ?_
          refine va_get (D := (dC, dI)) (ci := 9) (v := .int (nI (t.2.2.2 3))) (C := "StabilitySumsModel") (T := TB_M) (N := 33) hx hb hts ui_M hown hK hP 0 rfl rfl 16 (by decide) (hts _ uw_712) (fun _ h9 => h9) rfl de_M_table_55 ?_
          refine lv_iconst (v := 1) hx hb de_M_table_58 (by decide) ?_
          refine lv_isub hx hb de_M_table_59 ?_
          refine lv_goto (tgt := 65) hx hb de_M_table_60 (by decide) ?_
          refine lv_istore (lv' := [(6, .int ((nI (t.2.2.2 3)) - 1)), (5, .int (nI (i - 1))), (0, .ref (ad 0)), (1, .long a0), (3, .int 1), (4, .int (nI i))]) hx hb de_M_table_65 hl (by decide) rfl (fun ls hl => ?_)
          refine lv_aload_n hx hb de_M_table_67 rfl (lv_at hl 2 rfl) ?_
          refine lv_lconst (v := 0) hx hb de_M_table_68 (by decide) ?_
          refine va_put (D := (dC, dI)) (ci := 9) (v := .long 0) (ty := .long) (C := "StabilitySumsModel") (T := TB_M) (N := 33) hx hb hts ui_M tt_M tk_M nm_M hown hK hP hD hS 0 rfl rfl 31 (by decide) (hts _ uw_727) (fun _ h9 => h9) rfl (by decide +kernel) rfl rfl (Nat.le_of_ble_eq_true rfl) de_M_table_69 (fun H locs hP hD hS => ?_)
          have hP : va_P (dC, dI) CLS (wM ad T (sF t 2 0)) H := hP
          have hD : va_D A (wM ad T (sF t 2 0)) := hD
          refine lv_aload_n hx hb de_M_table_72 rfl (lv_at hl 2 rfl) ?_
          refine lv_lconst (v := 1) hx hb de_M_table_73 (by decide) ?_
          refine va_put (D := (dC, dI)) (ci := 9) (v := .long 1) (ty := .long) (C := "StabilitySumsModel") (T := TB_M) (N := 33) hx hb hts ui_M tt_M tk_M nm_M hown hK hP hD hS 0 rfl rfl 32 (by decide) (hts _ uw_728) (fun _ h9 => h9) rfl (by decide +kernel) rfl rfl (Nat.le_of_ble_eq_true rfl) de_M_table_74 (fun H locs hP hD hS => ?_)
          have hP : va_P (dC, dI) CLS (wM ad T (sF (sF t 2 0) 3 1)) H := hP
          have hD : va_D A (wM ad T (sF (sF t 2 0) 3 1)) := hD
          refine lv_aload_n hx hb de_M_table_77 rfl (lv_at hl 2 rfl) ?_
          refine va_get (D := (dC, dI)) (ci := 9) (v := .int (nI (t.2.2.2 3))) (C := "StabilitySumsModel") (T := TB_M) (N := 33) hx hb hts ui_M hown hK hP 0 rfl rfl 16 (by decide) (hts _ uw_712) (fun _ h9 => h9) rfl de_M_table_78 ?_
          refine lv_if_ne (tgt := 85) hx hb de_M_table_81 (by decide) (fun c_5 => ?_) (fun c_5 => ?_)
          · skip
            have c_5 : ¬ (t.2.2.2 3) = 0 := fun z => c_5 ((nz0 (by omega)).mpr z)
            exact absurd h0 c_5
          · skip
            have c_5 : (t.2.2.2 3) = 0 := (nz0 (by omega)).mp c_5
            have hfin : (sF (sF t 2 0) 3 1) = y_tb 14 a0 t := by
              have hU9 : y_tU 14 t a0 = 0 := by
                clear hP hD hS hl hK hN hts hA hown hml hx hb hr hlocks hQ hAe
                unfold y_tU; simp only [y_one, y_two, hi9]; grind
              have hD9 : y_tD t a0 = 1 := by
                clear hP hD hS hl hK hN hts hA hown hml hx hb hr hlocks hQ hAe
                unfold y_tD; simp only [y_one, y_two, hi9]; grind
              unfold y_tb; rw [hU9, hD9]; first | done | simp only [sF_idem, sF_c32]
            rw [hfin] at hP hD
            subst hQ
            exact W.vret hx hb hr (fun t9 ht hW => ⟨⟨(), rfl, trivial, by rw [ht]; exact hP, va_K.moved hW.alike hK, hD⟩, hS.F ht⟩) hS.2.2 de_M_table_84
      · skip
        have c_1 : i = 0 := (nz0 (by omega)).mp c_1
        refine lv_iconst (v := 0) hx hb de_M_table_35 (by decide) ?_
        refine lv_goto (tgt := 43) hx hb de_M_table_36 (by decide) ?_
        refine lv_istore (lv' := [(5, .int 0), (0, .ref (ad 0)), (1, .long a0), (3, .int 1), (4, .int (nI i))]) hx hb de_M_table_43 hl (by decide) rfl (fun ls hl => ?_)
        refine lv_iload hx hb de_M_table_45 (lv_at hl 4 rfl) ?_
        refine lv_aload_n hx hb de_M_table_47 rfl (lv_at hl 1 rfl) ?_
        refine va_get (D := (dC, dI)) (ci := 9) (v := .int (nI (t.2.2.2 3))) (C := "StabilitySumsModel") (T := TB_M) (N := 33) hx hb hts ui_M hown hK hP 0 rfl rfl 16 (by decide) (hts _ uw_712) (fun _ h9 => h9) rfl de_M_table_48 ?_
        refine lv_icmp_ne (tgt := 63) hx hb de_M_table_51 (by decide) (fun c_6 => ?_) (fun c_6 => ?_)
        · skip
          have c_6 : ¬ (i = (t.2.2.2 3)) := fun z => c_6 ((nI_eq (a := i) (b := t.2.2.2 3) (by omega) (by omega)).mpr z)
          refine lv_iload hx hb de_M_table_63 (lv_at hl 4 rfl) ?_
          refine lv_istore (lv' := [(6, .int (nI i)), (5, .int 0), (0, .ref (ad 0)), (1, .long a0), (3, .int 1), (4, .int (nI i))]) hx hb de_M_table_65 hl (by decide) rfl (fun ls hl => ?_)
          refine lv_aload_n hx hb de_M_table_67 rfl (lv_at hl 2 rfl) ?_
          refine lv_lconst (v := 0) hx hb de_M_table_68 (by decide) ?_
          refine va_put (D := (dC, dI)) (ci := 9) (v := .long 0) (ty := .long) (C := "StabilitySumsModel") (T := TB_M) (N := 33) hx hb hts ui_M tt_M tk_M nm_M hown hK hP hD hS 0 rfl rfl 31 (by decide) (hts _ uw_727) (fun _ h9 => h9) rfl (by decide +kernel) rfl rfl (Nat.le_of_ble_eq_true rfl) de_M_table_69 (fun H locs hP hD hS => ?_)
          have hP : va_P (dC, dI) CLS (wM ad T (sF t 2 0)) H := hP
          have hD : va_D A (wM ad T (sF t 2 0)) := hD
          refine lv_aload_n hx hb de_M_table_72 rfl (lv_at hl 2 rfl) ?_
          refine lv_lconst (v := 1) hx hb de_M_table_73 (by decide) ?_
          refine va_put (D := (dC, dI)) (ci := 9) (v := .long 1) (ty := .long) (C := "StabilitySumsModel") (T := TB_M) (N := 33) hx hb hts ui_M tt_M tk_M nm_M hown hK hP hD hS 0 rfl rfl 32 (by decide) (hts _ uw_728) (fun _ h9 => h9) rfl (by decide +kernel) rfl rfl (Nat.le_of_ble_eq_true rfl) de_M_table_74 (fun H locs hP hD hS => ?_)
          have hP : va_P (dC, dI) CLS (wM ad T (sF (sF t 2 0) 3 1)) H := hP
          have hD : va_D A (wM ad T (sF (sF t 2 0) 3 1)) := hD
          refine lv_aload_n hx hb de_M_table_77 rfl (lv_at hl 2 rfl) ?_
          refine va_get (D := (dC, dI)) (ci := 9) (v := .int (nI (t.2.2.2 3))) (C := "StabilitySumsModel") (T := TB_M) (N := 33) hx hb hts ui_M hown hK hP 0 rfl rfl 16 (by decide) (hts _ uw_712) (fun _ h9 => h9) rfl de_M_table_78 ?_
          refine lv_if_ne (tgt := 85) hx hb de_M_table_81 (by decide) (fun c_7 => ?_) (fun c_7 => ?_)
          · skip
            have c_7 : ¬ (t.2.2.2 3) = 0 := fun z => c_7 ((nz0 (by omega)).mpr z)
            exact absurd h0 c_7
          · skip
            have c_7 : (t.2.2.2 3) = 0 := (nz0 (by omega)).mp c_7
            have hfin : (sF (sF t 2 0) 3 1) = y_tb 14 a0 t := by
              have hU9 : y_tU 14 t a0 = 0 := by
                clear hP hD hS hl hK hN hts hA hown hml hx hb hr hlocks hQ hAe
                unfold y_tU; simp only [y_one, y_two, hi9]; grind
              have hD9 : y_tD t a0 = 1 := by
                clear hP hD hS hl hK hN hts hA hown hml hx hb hr hlocks hQ hAe
                unfold y_tD; simp only [y_one, y_two, hi9]; grind
              unfold y_tb; rw [hU9, hD9]; first | done | simp only [sF_idem, sF_c32]
            rw [hfin] at hP hD
            subst hQ
            exact W.vret hx hb hr (fun t9 ht hW => ⟨⟨(), rfl, trivial, by rw [ht]; exact hP, va_K.moved hW.alike hK, hD⟩, hS.F ht⟩) hS.2.2 de_M_table_84
        · skip
          have c_6 : i = (t.2.2.2 3) := (nI_eq (a := i) (b := t.2.2.2 3) (by omega) (by omega)).mp c_6
          refine lv_aload_n hx hb de_M_table_54 rfl (lv_at hl 1 rfl) ?_
          refine va_get (D := (dC, dI)) (ci := 9) (v := .int (nI (t.2.2.2 3))) (C := "StabilitySumsModel") (T := TB_M) (N := 33) hx hb hts ui_M hown hK hP 0 rfl rfl 16 (by decide) (hts _ uw_712) (fun _ h9 => h9) rfl de_M_table_55 ?_
          refine lv_iconst (v := 1) hx hb de_M_table_58 (by decide) ?_
          refine lv_isub hx hb de_M_table_59 ?_
          refine lv_goto (tgt := 65) hx hb de_M_table_60 (by decide) ?_
          refine lv_istore (lv' := [(6, .int ((nI (t.2.2.2 3)) - 1)), (5, .int 0), (0, .ref (ad 0)), (1, .long a0), (3, .int 1), (4, .int (nI i))]) hx hb de_M_table_65 hl (by decide) rfl (fun ls hl => ?_)
          refine lv_aload_n hx hb de_M_table_67 rfl (lv_at hl 2 rfl) ?_
          refine lv_lconst (v := 0) hx hb de_M_table_68 (by decide) ?_
          refine va_put (D := (dC, dI)) (ci := 9) (v := .long 0) (ty := .long) (C := "StabilitySumsModel") (T := TB_M) (N := 33) hx hb hts ui_M tt_M tk_M nm_M hown hK hP hD hS 0 rfl rfl 31 (by decide) (hts _ uw_727) (fun _ h9 => h9) rfl (by decide +kernel) rfl rfl (Nat.le_of_ble_eq_true rfl) de_M_table_69 (fun H locs hP hD hS => ?_)
          have hP : va_P (dC, dI) CLS (wM ad T (sF t 2 0)) H := hP
          have hD : va_D A (wM ad T (sF t 2 0)) := hD
          refine lv_aload_n hx hb de_M_table_72 rfl (lv_at hl 2 rfl) ?_
          refine lv_lconst (v := 1) hx hb de_M_table_73 (by decide) ?_
          refine va_put (D := (dC, dI)) (ci := 9) (v := .long 1) (ty := .long) (C := "StabilitySumsModel") (T := TB_M) (N := 33) hx hb hts ui_M tt_M tk_M nm_M hown hK hP hD hS 0 rfl rfl 32 (by decide) (hts _ uw_728) (fun _ h9 => h9) rfl (by decide +kernel) rfl rfl (Nat.le_of_ble_eq_true rfl) de_M_table_74 (fun H locs hP hD hS => ?_)
          have hP : va_P (dC, dI) CLS (wM ad T (sF (sF t 2 0) 3 1)) H := hP
          have hD : va_D A (wM ad T (sF (sF t 2 0) 3 1)) := hD
          refine lv_aload_n hx hb de_M_table_77 rfl (lv_at hl 2 rfl) ?_
          refine va_get (D := (dC, dI)) (ci := 9) (v := .int (nI (t.2.2.2 3))) (C := "StabilitySumsModel") (T := TB_M) (N := 33) hx hb hts ui_M hown hK hP 0 rfl rfl 16 (by decide) (hts _ uw_712) (fun _ h9 => h9) rfl de_M_table_78 ?_
          refine lv_if_ne (tgt := 85) hx hb de_M_table_81 (by decide) (fun c_8 => ?_) (fun c_8 => ?_)
          · skip
            have c_8 : ¬ (t.2.2.2 3) = 0 := fun z => c_8 ((nz0 (by omega)).mpr z)
            exact absurd h0 c_8
          · skip
            have c_8 : (t.2.2.2 3) = 0 := (nz0 (by omega)).mp c_8
            have hfin : (sF (sF t 2 0) 3 1) = y_tb 14 a0 t := by
              have hU9 : y_tU 14 t a0 = 0 := by
                clear hP hD hS hl hK hN hts hA hown hml hx hb hr hlocks hQ hAe
                unfold y_tU; simp only [y_one, y_two, hi9]; grind
              have hD9 : y_tD t a0 = 1 := by
                clear hP hD hS hl hK hN hts hA hown hml hx hb hr hlocks hQ hAe
                unfold y_tD; simp only [y_one, y_two, hi9]; grind
              unfold y_tb; rw [hU9, hD9]; first | done | simp only [sF_idem, sF_c32]
            rw [hfin] at hP hD
            subst hQ
            exact W.vret hx hb hr (fun t9 ht hW => ⟨⟨(), rfl, trivial, by rw [ht]; exact hP, va_K.moved hW.alike hK, hD⟩, hS.F ht⟩) hS.2.2 de_M_table_84
    · skip
      refine lv_iload hx hb de_M_table_30 (lv_at hl 3 rfl) ?_
      refine lv_if_ne (tgt := 39) hx hb de_M_table_32 (by decide) (fun c_9 => ?_) (fun c_9 => ?_)
      · skip
        have c_9 : ¬ i = 0 := fun z => c_9 ((nz0 (by omega)).mpr z)
        refine lv_iload hx hb de_M_table_39 (lv_at hl 3 rfl) ?_
        refine lv_iconst (v := 1) hx hb de_M_table_41 (by decide) ?_
        refine lv_isub hx hb de_M_table_42 ?_
        refine lv_topi (fun v_10 ev_10 => ?_)
        have ev_10 : v_10 = (nI (i - 1)) := ev_10.trans (pk_sub (a := i) (b := 1) (by omega))
        subst ev_10
        refine lv_istore (lv' := [(5, .int (nI (i - 1))), (0, .ref (ad 0)), (1, .long a0), (3, .int 1), (4, .int (nI i))]) hx hb de_M_table_43 hl (by decide) rfl (fun ls hl => ?_)
        refine lv_iload hx hb de_M_table_45 (lv_at hl 4 rfl) ?_
        refine lv_aload_n hx hb de_M_table_47 rfl (lv_at hl 1 rfl) ?_
        refine va_get (D := (dC, dI)) (ci := 9) (v := .int (nI (t.2.2.2 3))) (C := "StabilitySumsModel") (T := TB_M) (N := 33) hx hb hts ui_M hown hK hP 0 rfl rfl 16 (by decide) (hts _ uw_712) (fun _ h9 => h9) rfl de_M_table_48 ?_
        refine lv_icmp_ne (tgt := 63) hx hb de_M_table_51 (by decide) (fun c_11 => ?_) (fun c_11 => ?_)
        · skip
          have c_11 : ¬ (i = (t.2.2.2 3)) := fun z => c_11 ((nI_eq (a := i) (b := t.2.2.2 3) (by omega) (by omega)).mpr z)
          refine lv_iload hx hb de_M_table_63 (lv_at hl 4 rfl) ?_
          refine lv_istore (lv' := [(6, .int (nI i)), (5, .int (nI (i - 1))), (0, .ref (ad 0)), (1, .long a0), (3, .int 1), (4, .int (nI i))]) hx hb de_M_table_65 hl (by decide) rfl (fun ls hl => ?_)
          refine lv_aload_n hx hb de_M_table_67 rfl (lv_at hl 2 rfl) ?_
          refine lv_lconst (v := 0) hx hb de_M_table_68 (by decide) ?_
          refine va_put (D := (dC, dI)) (ci := 9) (v := .long 0) (ty := .long) (C := "StabilitySumsModel") (T := TB_M) (N := 33) hx hb hts ui_M tt_M tk_M nm_M hown hK hP hD hS 0 rfl rfl 31 (by decide) (hts _ uw_727) (fun _ h9 => h9) rfl (by decide +kernel) rfl rfl (Nat.le_of_ble_eq_true rfl) de_M_table_69 (fun H locs hP hD hS => ?_)
          have hP : va_P (dC, dI) CLS (wM ad T (sF t 2 0)) H := hP
          have hD : va_D A (wM ad T (sF t 2 0)) := hD
          refine lv_aload_n hx hb de_M_table_72 rfl (lv_at hl 2 rfl) ?_
          refine lv_lconst (v := 1) hx hb de_M_table_73 (by decide) ?_
          refine va_put (D := (dC, dI)) (ci := 9) (v := .long 1) (ty := .long) (C := "StabilitySumsModel") (T := TB_M) (N := 33) hx hb hts ui_M tt_M tk_M nm_M hown hK hP hD hS 0 rfl rfl 32 (by decide) (hts _ uw_728) (fun _ h9 => h9) rfl (by decide +kernel) rfl rfl (Nat.le_of_ble_eq_true rfl) de_M_table_74 (fun H locs hP hD hS => ?_)
          have hP : va_P (dC, dI) CLS (wM ad T (sF (sF t 2 0) 3 1)) H := hP
          have hD : va_D A (wM ad T (sF (sF t 2 0) 3 1)) := hD
          refine lv_aload_n hx hb de_M_table_77 rfl (lv_at hl 2 rfl) ?_
          refine va_get (D := (dC, dI)) (ci := 9) (v := .int (nI (t.2.2.2 3))) (C := "StabilitySumsModel") (T := TB_M) (N := 33) hx hb hts ui_M hown hK hP 0 rfl rfl 16 (by decide) (hts _ uw_712) (fun _ h9 => h9) rfl de_M_table_78 ?_
          refine lv_if_ne (tgt := 85) hx hb de_M_table_81 (by decide) (fun c_12 => ?_) (fun c_12 => ?_)
          · skip
            have c_12 : ¬ (t.2.2.2 3) = 0 := fun z => c_12 ((nz0 (by omega)).mpr z)
            refine lv_iload_n hx hb de_M_table_85 rfl (lv_at hl 4 rfl) ?_
            refine lv_if_eq (tgt := 99) hx hb de_M_table_86 (by decide) (fun c_13 => ?_) (fun c_13 => ?_)
            · skip
              exact absurd c_13 (by decide)
            · skip
              refine lv_aload_n hx hb de_M_table_89 rfl (lv_at hl 2 rfl) ?_
              refine va_get (D := (dC, dI)) (ci := 9) (v := .ref (ad 15)) (C := "StabilitySumsModel") (T := TB_M) (N := 33) hx hb hts ui_M hown hK hP 0 rfl rfl 18 (by decide) (hts _ uw_714) (fun _ h9 => h9) rfl de_M_table_90 ?_
              refine lv_iload hx hb de_M_table_93 (lv_at hl 1 rfl) ?_
              refine rw_lald (f := t.1 14) (j := (i - 1)) hx hb hK hP 15 0 rfl rfl (by omega) (by decide) de_M_table_95 ?_
              refine lv_goto (tgt := 106) hx hb de_M_table_96 (by decide) ?_
              refine lv_lstore (lv' := [(7, .long (t.1 14 (i - 1))), (6, .int (nI i)), (5, .int (nI (i - 1))), (0, .ref (ad 0)), (1, .long a0), (3, .int 1), (4, .int (nI i))]) hx hb de_M_table_106 hl (by decide) rfl (fun ls hl => ?_)
              refine lv_iload_n hx hb de_M_table_108 rfl (lv_at hl 5 rfl) ?_
              refine lv_if_eq (tgt := 122) hx hb de_M_table_109 (by decide) (fun c_14 => ?_) (fun c_14 => ?_)
              · skip
                exact absurd c_14 (by decide)
              · skip
                refine lv_aload_n hx hb de_M_table_112 rfl (lv_at hl 3 rfl) ?_
                refine va_get (D := (dC, dI)) (ci := 9) (v := .ref (ad 15)) (C := "StabilitySumsModel") (T := TB_M) (N := 33) hx hb hts ui_M hown hK hP 0 rfl rfl 18 (by decide) (hts _ uw_714) (fun _ h9 => h9) rfl de_M_table_113 ?_
                refine lv_iload hx hb de_M_table_116 (lv_at hl 1 rfl) ?_
                refine rw_lald (f := t.1 14) (j := i) hx hb hK hP 15 0 rfl rfl (by omega) (by decide) de_M_table_118 ?_
                refine lv_goto (tgt := 129) hx hb de_M_table_119 (by decide) ?_
                refine lv_lstore (lv' := [(9, .long (t.1 14 i)), (7, .long (t.1 14 (i - 1))), (6, .int (nI i)), (5, .int (nI (i - 1))), (0, .ref (ad 0)), (1, .long a0), (3, .int 1), (4, .int (nI i))]) hx hb de_M_table_129 hl (by decide) rfl (fun ls hl => ?_)
                refine lv_aload_n hx hb de_M_table_131 rfl (lv_at hl 4 rfl) ?_
                refine lv_lload hx hb de_M_table_132 (lv_at hl 1 rfl) ?_
                refine va_put (D := (dC, dI)) (ci := 9) (v := .long (t.1 14 (i - 1))) (ty := .long) (C := "StabilitySumsModel") (T := TB_M) (N := 33) hx hb hts ui_M tt_M tk_M nm_M hown hK hP hD hS 0 rfl rfl 31 (by decide) (hts _ uw_727) (fun _ h9 => h9) rfl (by decide +kernel) rfl rfl (Nat.le_of_ble_eq_true rfl) de_M_table_134 (fun H locs hP hD hS => ?_)
                have hP : va_P (dC, dI) CLS (wM ad T (sF (sF (sF t 2 0) 3 1) 2 (t.1 14 (i - 1)))) H := hP
                have hD : va_D A (wM ad T (sF (sF (sF t 2 0) 3 1) 2 (t.1 14 (i - 1)))) := hD
                refine lv_iload hx hb de_M_table_137 (lv_at hl 3 rfl) ?_
                refine lv_iload hx hb de_M_table_139 (lv_at hl 2 rfl) ?_
                refine lv_icmp_eq (tgt := 190) hx hb de_M_table_141 (by decide) (fun c_15 => ?_) (fun c_15 => ?_)
                · skip
                  have c_15 : (i - 1) = i := (nI_eq (a := i - 1) (b := i) (by omega) (by omega)).mp c_15
                  have hfin : (sF (sF (sF t 2 0) 3 1) 2 (t.1 14 (i - 1))) = y_tb 14 a0 t := by
                    have hU9 : y_tU 14 t a0 = (t.1 14 (i - 1)) := by
                      clear hP hD hS hl hK hN hts hA hown hml hx hb hr hlocks hQ hAe
                      unfold y_tU; simp only [y_one, y_two, hi9]; grind
                    have hD9 : y_tD t a0 = 1 := by
                      clear hP hD hS hl hK hN hts hA hown hml hx hb hr hlocks hQ hAe
                      unfold y_tD; simp only [y_one, y_two, hi9]; grind
                    unfold y_tb; rw [hU9, hD9]; first | done | simp only [sF_idem, sF_c32]
                  rw [hfin] at hP hD
                  subst hQ
                  exact W.vret hx hb hr (fun t9 ht hW => ⟨⟨(), rfl, trivial, by rw [ht]; exact hP, va_K.moved hW.alike hK, hD⟩, hS.F ht⟩) hS.2.2 de_M_table_190
                · skip
                  have c_15 : ¬ ((i - 1) = i) := fun z => c_15 ((nI_eq (a := i - 1) (b := i) (by omega) (by omega)).mpr z)
                  refine lv_aload_n hx hb de_M_table_144 rfl (lv_at hl 4 rfl) ?_
                  refine lv_aload_n hx hb de_M_table_145 rfl (lv_at hl 4 rfl) ?_
                  refine va_get (D := (dC, dI)) (ci := 9) (v := .ref (ad 14)) (C := "StabilitySumsModel") (T := TB_M) (N := 33) hx hb hts ui_M hown hK hP 0 rfl rfl 17 (by decide) (hts _ uw_713) (fun _ h9 => h9) rfl de_M_table_146 ?_
                  refine lv_iload hx hb de_M_table_149 (lv_at hl 2 rfl) ?_
                  refine rw_lald (f := t.1 13) (j := i) hx hb hK hP 14 0 rfl rfl (by omega) (by decide) de_M_table_151 ?_
                  refine lv_aload_n hx hb de_M_table_152 rfl (lv_at hl 4 rfl) ?_
                  refine va_get (D := (dC, dI)) (ci := 9) (v := .ref (ad 14)) (C := "StabilitySumsModel") (T := TB_M) (N := 33) hx hb hts ui_M hown hK hP 0 rfl rfl 17 (by decide) (hts _ uw_713) (fun _ h9 => h9) rfl de_M_table_153 ?_
                  refine lv_iload hx hb de_M_table_156 (lv_at hl 3 rfl) ?_
                  refine rw_lald (f := t.1 13) (j := (i - 1)) hx hb hK hP 14 0 rfl rfl (by omega) (by decide) de_M_table_158 ?_
                  refine lv_lsub hx hb de_M_table_159 ?_
                  refine lv_topl (fun v_16 ev_16 => ?_)
                  have ev_16 : v_16 = (t.1 13 i) - (t.1 13 (i - 1)) := ev_16
                  refine va_put (D := (dC, dI)) (ci := 9) (v := .long v_16) (ty := .long) (C := "StabilitySumsModel") (T := TB_M) (N := 33) hx hb hts ui_M tt_M tk_M nm_M hown hK hP hD hS 0 rfl rfl 32 (by decide) (hts _ uw_728) (fun _ h9 => h9) rfl (by decide +kernel) rfl rfl (Nat.le_of_ble_eq_true rfl) de_M_table_160 (fun H locs hP hD hS => ?_)
                  have hP : va_P (dC, dI) CLS (wM ad T (sF (sF (sF (sF t 2 0) 3 1) 2 (t.1 14 (i - 1))) 3 v_16)) H := hP
                  have hD : va_D A (wM ad T (sF (sF (sF (sF t 2 0) 3 1) 2 (t.1 14 (i - 1))) 3 v_16)) := hD
                  refine lv_aload_n hx hb de_M_table_163 rfl (lv_at hl 4 rfl) ?_
                  refine lv_lload hx hb de_M_table_164 (lv_at hl 1 rfl) ?_
                  refine lv_aload_n hx hb de_M_table_166 rfl (lv_at hl 4 rfl) ?_
                  refine va_get (D := (dC, dI)) (ci := 9) (v := .long v_16) (C := "StabilitySumsModel") (T := TB_M) (N := 33) hx hb hts ui_M hown hK hP 0 rfl rfl 32 (by decide) (hts _ uw_728) (fun _ h9 => h9) rfl de_M_table_167 ?_
                  refine lv_lmul hx hb de_M_table_170 ?_
                  refine lv_topl (fun v_17 ev_17 => ?_)
                  have ev_17 : v_17 = (t.1 14 (i - 1)) * v_16 := ev_17
                  refine lv_lload hx hb de_M_table_171 (lv_at hl 0 rfl) ?_
                  refine lv_lload hx hb de_M_table_173 (lv_at hl 1 rfl) ?_
                  refine lv_lsub hx hb de_M_table_175 ?_
                  refine lv_topl (fun v_18 ev_18 => ?_)
                  have ev_18 : v_18 = (t.1 14 i) - (t.1 14 (i - 1)) := ev_18
                  refine lv_lload_n hx hb de_M_table_176 rfl (lv_at hl 5 rfl) ?_
                  refine lv_aload_n hx hb de_M_table_177 rfl (lv_at hl 4 rfl) ?_
                  refine va_get (D := (dC, dI)) (ci := 9) (v := .ref (ad 14)) (C := "StabilitySumsModel") (T := TB_M) (N := 33) hx hb hts ui_M hown hK hP 0 rfl rfl 17 (by decide) (hts _ uw_713) (fun _ h9 => h9) rfl de_M_table_178 ?_
                  refine lv_iload hx hb de_M_table_181 (lv_at hl 3 rfl) ?_
                  refine rw_lald (f := t.1 13) (j := (i - 1)) hx hb hK hP 14 0 rfl rfl (by omega) (by decide) de_M_table_183 ?_
                  refine lv_lsub hx hb de_M_table_184 ?_
                  refine lv_topl (fun v_19 ev_19 => ?_)
                  have ev_19 : v_19 = a0 - (t.1 13 (i - 1)) := ev_19
                  refine lv_lmul hx hb de_M_table_185 ?_
                  refine lv_topl (fun v_20 ev_20 => ?_)
                  have ev_20 : v_20 = v_18 * v_19 := ev_20
                  refine lv_ladd hx hb de_M_table_186 ?_
                  refine lv_topl (fun v_21 ev_21 => ?_)
                  have ev_21 : v_21 = v_17 + v_20 := ev_21
                  refine va_put (D := (dC, dI)) (ci := 9) (v := .long v_21) (ty := .long) (C := "StabilitySumsModel") (T := TB_M) (N := 33) hx hb hts ui_M tt_M tk_M nm_M hown hK hP hD hS 0 rfl rfl 31 (by decide) (hts _ uw_727) (fun _ h9 => h9) rfl (by decide +kernel) rfl rfl (Nat.le_of_ble_eq_true rfl) de_M_table_187 (fun H locs hP hD hS => ?_)
                  have hP : va_P (dC, dI) CLS (wM ad T (sF (sF (sF (sF (sF t 2 0) 3 1) 2 (t.1 14 (i - 1))) 3 v_16) 2 v_21)) H := hP
                  have hD : va_D A (wM ad T (sF (sF (sF (sF (sF t 2 0) 3 1) 2 (t.1 14 (i - 1))) 3 v_16) 2 v_21)) := hD
                  have hfin : (sF (sF (sF (sF (sF t 2 0) 3 1) 2 (t.1 14 (i - 1))) 3 v_16) 2 v_21) = y_tb 14 a0 t := by
                    have hU9 : y_tU 14 t a0 = v_21 := by
                      clear hP hD hS hl hK hN hts hA hown hml hx hb hr hlocks hQ hAe
                      unfold y_tU; simp only [y_one, y_two, hi9]; grind
                    have hD9 : y_tD t a0 = v_16 := by
                      clear hP hD hS hl hK hN hts hA hown hml hx hb hr hlocks hQ hAe
                      unfold y_tD; simp only [y_one, y_two, hi9]; grind
                    unfold y_tb; rw [hU9, hD9]; first | done | simp only [sF_idem, sF_c32]
                  rw [hfin] at hP hD
                  subst hQ
                  exact W.vret hx hb hr (fun t9 ht hW => ⟨⟨(), rfl, trivial, by rw [ht]; exact hP, va_K.moved hW.alike hK, hD⟩, hS.F ht⟩) hS.2.2 de_M_table_190
          · skip
            have c_12 : (t.2.2.2 3) = 0 := (nz0 (by omega)).mp c_12
            have hfin : (sF (sF t 2 0) 3 1) = y_tb 14 a0 t := by
              have hU9 : y_tU 14 t a0 = 0 := by
                clear hP hD hS hl hK hN hts hA hown hml hx hb hr hlocks hQ hAe
                unfold y_tU; simp only [y_one, y_two, hi9]; grind
              have hD9 : y_tD t a0 = 1 := by
                clear hP hD hS hl hK hN hts hA hown hml hx hb hr hlocks hQ hAe
                unfold y_tD; simp only [y_one, y_two, hi9]; grind
              unfold y_tb; rw [hU9, hD9]; first | done | simp only [sF_idem, sF_c32]
            rw [hfin] at hP hD
            subst hQ
            exact W.vret hx hb hr (fun t9 ht hW => ⟨⟨(), rfl, trivial, by rw [ht]; exact hP, va_K.moved hW.alike hK, hD⟩, hS.F ht⟩) hS.2.2 de_M_table_84
        · skip
          have c_11 : i = (t.2.2.2 3) := (nI_eq (a := i) (b := t.2.2.2 3) (by omega) (by omega)).mp c_11
          refine lv_aload_n hx hb de_M_table_54 rfl (lv_at hl 1 rfl) ?_
          refine va_get (D := (dC, dI)) (ci := 9) (v := .int (nI (t.2.2.2 3))) (C := "StabilitySumsModel") (T := TB_M) (N := 33) hx hb hts ui_M hown hK hP 0 rfl rfl 16 (by decide) (hts _ uw_712) (fun _ h9 => h9) rfl de_M_table_55 ?_
          refine lv_iconst (v := 1) hx hb de_M_table_58 (by decide) ?_
          refine lv_isub hx hb de_M_table_59 ?_
          refine lv_topi (fun v_22 ev_22 => ?_)
          have ev_22 : v_22 = (nI ((t.2.2.2 3) - 1)) := ev_22.trans (pk_sub (a := t.2.2.2 3) (b := 1) (by omega))
          subst ev_22
          refine lv_goto (tgt := 65) hx hb de_M_table_60 (by decide) ?_
          refine lv_istore (lv' := [(6, .int (nI ((t.2.2.2 3) - 1))), (5, .int (nI (i - 1))), (0, .ref (ad 0)), (1, .long a0), (3, .int 1), (4, .int (nI i))]) hx hb de_M_table_65 hl (by decide) rfl (fun ls hl => ?_)
          refine lv_aload_n hx hb de_M_table_67 rfl (lv_at hl 2 rfl) ?_
          refine lv_lconst (v := 0) hx hb de_M_table_68 (by decide) ?_
          refine va_put (D := (dC, dI)) (ci := 9) (v := .long 0) (ty := .long) (C := "StabilitySumsModel") (T := TB_M) (N := 33) hx hb hts ui_M tt_M tk_M nm_M hown hK hP hD hS 0 rfl rfl 31 (by decide) (hts _ uw_727) (fun _ h9 => h9) rfl (by decide +kernel) rfl rfl (Nat.le_of_ble_eq_true rfl) de_M_table_69 (fun H locs hP hD hS => ?_)
          have hP : va_P (dC, dI) CLS (wM ad T (sF t 2 0)) H := hP
          have hD : va_D A (wM ad T (sF t 2 0)) := hD
          refine lv_aload_n hx hb de_M_table_72 rfl (lv_at hl 2 rfl) ?_
          refine lv_lconst (v := 1) hx hb de_M_table_73 (by decide) ?_
          refine va_put (D := (dC, dI)) (ci := 9) (v := .long 1) (ty := .long) (C := "StabilitySumsModel") (T := TB_M) (N := 33) hx hb hts ui_M tt_M tk_M nm_M hown hK hP hD hS 0 rfl rfl 32 (by decide) (hts _ uw_728) (fun _ h9 => h9) rfl (by decide +kernel) rfl rfl (Nat.le_of_ble_eq_true rfl) de_M_table_74 (fun H locs hP hD hS => ?_)
          have hP : va_P (dC, dI) CLS (wM ad T (sF (sF t 2 0) 3 1)) H := hP
          have hD : va_D A (wM ad T (sF (sF t 2 0) 3 1)) := hD
          refine lv_aload_n hx hb de_M_table_77 rfl (lv_at hl 2 rfl) ?_
          refine va_get (D := (dC, dI)) (ci := 9) (v := .int (nI (t.2.2.2 3))) (C := "StabilitySumsModel") (T := TB_M) (N := 33) hx hb hts ui_M hown hK hP 0 rfl rfl 16 (by decide) (hts _ uw_712) (fun _ h9 => h9) rfl de_M_table_78 ?_
          refine lv_if_ne (tgt := 85) hx hb de_M_table_81 (by decide) (fun c_23 => ?_) (fun c_23 => ?_)
          · skip
            have c_23 : ¬ (t.2.2.2 3) = 0 := fun z => c_23 ((nz0 (by omega)).mpr z)
            refine lv_iload_n hx hb de_M_table_85 rfl (lv_at hl 4 rfl) ?_
            refine lv_if_eq (tgt := 99) hx hb de_M_table_86 (by decide) (fun c_24 => ?_) (fun c_24 => ?_)
            · skip
              exact absurd c_24 (by decide)
            · skip
              refine lv_aload_n hx hb de_M_table_89 rfl (lv_at hl 2 rfl) ?_
              refine va_get (D := (dC, dI)) (ci := 9) (v := .ref (ad 15)) (C := "StabilitySumsModel") (T := TB_M) (N := 33) hx hb hts ui_M hown hK hP 0 rfl rfl 18 (by decide) (hts _ uw_714) (fun _ h9 => h9) rfl de_M_table_90 ?_
              refine lv_iload hx hb de_M_table_93 (lv_at hl 1 rfl) ?_
              refine rw_lald (f := t.1 14) (j := (i - 1)) hx hb hK hP 15 0 rfl rfl (by omega) (by decide) de_M_table_95 ?_
              refine lv_goto (tgt := 106) hx hb de_M_table_96 (by decide) ?_
              refine lv_lstore (lv' := [(7, .long (t.1 14 (i - 1))), (6, .int (nI ((t.2.2.2 3) - 1))), (5, .int (nI (i - 1))), (0, .ref (ad 0)), (1, .long a0), (3, .int 1), (4, .int (nI i))]) hx hb de_M_table_106 hl (by decide) rfl (fun ls hl => ?_)
              refine lv_iload_n hx hb de_M_table_108 rfl (lv_at hl 5 rfl) ?_
              refine lv_if_eq (tgt := 122) hx hb de_M_table_109 (by decide) (fun c_25 => ?_) (fun c_25 => ?_)
              · skip
                exact absurd c_25 (by decide)
              · skip
                refine lv_aload_n hx hb de_M_table_112 rfl (lv_at hl 3 rfl) ?_
                refine va_get (D := (dC, dI)) (ci := 9) (v := .ref (ad 15)) (C := "StabilitySumsModel") (T := TB_M) (N := 33) hx hb hts ui_M hown hK hP 0 rfl rfl 18 (by decide) (hts _ uw_714) (fun _ h9 => h9) rfl de_M_table_113 ?_
                refine lv_iload hx hb de_M_table_116 (lv_at hl 1 rfl) ?_
                refine rw_lald (f := t.1 14) (j := ((t.2.2.2 3) - 1)) hx hb hK hP 15 0 rfl rfl (by omega) (by decide) de_M_table_118 ?_
                refine lv_goto (tgt := 129) hx hb de_M_table_119 (by decide) ?_
                refine lv_lstore (lv' := [(9, .long (t.1 14 ((t.2.2.2 3) - 1))), (7, .long (t.1 14 (i - 1))), (6, .int (nI ((t.2.2.2 3) - 1))), (5, .int (nI (i - 1))), (0, .ref (ad 0)), (1, .long a0), (3, .int 1), (4, .int (nI i))]) hx hb de_M_table_129 hl (by decide) rfl (fun ls hl => ?_)
                refine lv_aload_n hx hb de_M_table_131 rfl (lv_at hl 4 rfl) ?_
                refine lv_lload hx hb de_M_table_132 (lv_at hl 1 rfl) ?_
                refine va_put (D := (dC, dI)) (ci := 9) (v := .long (t.1 14 (i - 1))) (ty := .long) (C := "StabilitySumsModel") (T := TB_M) (N := 33) hx hb hts ui_M tt_M tk_M nm_M hown hK hP hD hS 0 rfl rfl 31 (by decide) (hts _ uw_727) (fun _ h9 => h9) rfl (by decide +kernel) rfl rfl (Nat.le_of_ble_eq_true rfl) de_M_table_134 (fun H locs hP hD hS => ?_)
                have hP : va_P (dC, dI) CLS (wM ad T (sF (sF (sF t 2 0) 3 1) 2 (t.1 14 (i - 1)))) H := hP
                have hD : va_D A (wM ad T (sF (sF (sF t 2 0) 3 1) 2 (t.1 14 (i - 1)))) := hD
                refine lv_iload hx hb de_M_table_137 (lv_at hl 3 rfl) ?_
                refine lv_iload hx hb de_M_table_139 (lv_at hl 2 rfl) ?_
                refine lv_icmp_eq (tgt := 190) hx hb de_M_table_141 (by decide) (fun c_26 => ?_) (fun c_26 => ?_)
                · skip
                  have c_26 : (i - 1) = ((t.2.2.2 3) - 1) := (nI_eq (a := i - 1) (b := (t.2.2.2 3) - 1) (by omega) (by omega)).mp c_26
                  have hfin : (sF (sF (sF t 2 0) 3 1) 2 (t.1 14 (i - 1))) = y_tb 14 a0 t := by
                    have hU9 : y_tU 14 t a0 = (t.1 14 (i - 1)) := by
                      clear hP hD hS hl hK hN hts hA hown hml hx hb hr hlocks hQ hAe
                      unfold y_tU; simp only [y_one, y_two, hi9]; grind
                    have hD9 : y_tD t a0 = 1 := by
                      clear hP hD hS hl hK hN hts hA hown hml hx hb hr hlocks hQ hAe
                      unfold y_tD; simp only [y_one, y_two, hi9]; grind
                    unfold y_tb; rw [hU9, hD9]; first | done | simp only [sF_idem, sF_c32]
                  rw [hfin] at hP hD
                  subst hQ
                  exact W.vret hx hb hr (fun t9 ht hW => ⟨⟨(), rfl, trivial, by rw [ht]; exact hP, va_K.moved hW.alike hK, hD⟩, hS.F ht⟩) hS.2.2 de_M_table_190
                · skip
                  have c_26 : ¬ ((i - 1) = ((t.2.2.2 3) - 1)) := fun z => c_26 ((nI_eq (a := i - 1) (b := (t.2.2.2 3) - 1) (by omega) (by omega)).mpr z)
                  refine lv_aload_n hx hb de_M_table_144 rfl (lv_at hl 4 rfl) ?_
                  refine lv_aload_n hx hb de_M_table_145 rfl (lv_at hl 4 rfl) ?_
                  refine va_get (D := (dC, dI)) (ci := 9) (v := .ref (ad 14)) (C := "StabilitySumsModel") (T := TB_M) (N := 33) hx hb hts ui_M hown hK hP 0 rfl rfl 17 (by decide) (hts _ uw_713) (fun _ h9 => h9) rfl de_M_table_146 ?_
                  refine lv_iload hx hb de_M_table_149 (lv_at hl 2 rfl) ?_
                  refine rw_lald (f := t.1 13) (j := ((t.2.2.2 3) - 1)) hx hb hK hP 14 0 rfl rfl (by omega) (by decide) de_M_table_151 ?_
                  refine lv_aload_n hx hb de_M_table_152 rfl (lv_at hl 4 rfl) ?_
                  refine va_get (D := (dC, dI)) (ci := 9) (v := .ref (ad 14)) (C := "StabilitySumsModel") (T := TB_M) (N := 33) hx hb hts ui_M hown hK hP 0 rfl rfl 17 (by decide) (hts _ uw_713) (fun _ h9 => h9) rfl de_M_table_153 ?_
                  refine lv_iload hx hb de_M_table_156 (lv_at hl 3 rfl) ?_
                  refine rw_lald (f := t.1 13) (j := (i - 1)) hx hb hK hP 14 0 rfl rfl (by omega) (by decide) de_M_table_158 ?_
                  refine lv_lsub hx hb de_M_table_159 ?_
                  refine lv_topl (fun v_27 ev_27 => ?_)
                  have ev_27 : v_27 = (t.1 13 ((t.2.2.2 3) - 1)) - (t.1 13 (i - 1)) := ev_27
                  refine va_put (D := (dC, dI)) (ci := 9) (v := .long v_27) (ty := .long) (C := "StabilitySumsModel") (T := TB_M) (N := 33) hx hb hts ui_M tt_M tk_M nm_M hown hK hP hD hS 0 rfl rfl 32 (by decide) (hts _ uw_728) (fun _ h9 => h9) rfl (by decide +kernel) rfl rfl (Nat.le_of_ble_eq_true rfl) de_M_table_160 (fun H locs hP hD hS => ?_)
                  have hP : va_P (dC, dI) CLS (wM ad T (sF (sF (sF (sF t 2 0) 3 1) 2 (t.1 14 (i - 1))) 3 v_27)) H := hP
                  have hD : va_D A (wM ad T (sF (sF (sF (sF t 2 0) 3 1) 2 (t.1 14 (i - 1))) 3 v_27)) := hD
                  refine lv_aload_n hx hb de_M_table_163 rfl (lv_at hl 4 rfl) ?_
                  refine lv_lload hx hb de_M_table_164 (lv_at hl 1 rfl) ?_
                  refine lv_aload_n hx hb de_M_table_166 rfl (lv_at hl 4 rfl) ?_
                  refine va_get (D := (dC, dI)) (ci := 9) (v := .long v_27) (C := "StabilitySumsModel") (T := TB_M) (N := 33) hx hb hts ui_M hown hK hP 0 rfl rfl 32 (by decide) (hts _ uw_728) (fun _ h9 => h9) rfl de_M_table_167 ?_
                  refine lv_lmul hx hb de_M_table_170 ?_
                  refine lv_topl (fun v_28 ev_28 => ?_)
                  have ev_28 : v_28 = (t.1 14 (i - 1)) * v_27 := ev_28
                  refine lv_lload hx hb de_M_table_171 (lv_at hl 0 rfl) ?_
                  refine lv_lload hx hb de_M_table_173 (lv_at hl 1 rfl) ?_
                  refine lv_lsub hx hb de_M_table_175 ?_
                  refine lv_topl (fun v_29 ev_29 => ?_)
                  have ev_29 : v_29 = (t.1 14 ((t.2.2.2 3) - 1)) - (t.1 14 (i - 1)) := ev_29
                  refine lv_lload_n hx hb de_M_table_176 rfl (lv_at hl 5 rfl) ?_
                  refine lv_aload_n hx hb de_M_table_177 rfl (lv_at hl 4 rfl) ?_
                  refine va_get (D := (dC, dI)) (ci := 9) (v := .ref (ad 14)) (C := "StabilitySumsModel") (T := TB_M) (N := 33) hx hb hts ui_M hown hK hP 0 rfl rfl 17 (by decide) (hts _ uw_713) (fun _ h9 => h9) rfl de_M_table_178 ?_
                  refine lv_iload hx hb de_M_table_181 (lv_at hl 3 rfl) ?_
                  refine rw_lald (f := t.1 13) (j := (i - 1)) hx hb hK hP 14 0 rfl rfl (by omega) (by decide) de_M_table_183 ?_
                  refine lv_lsub hx hb de_M_table_184 ?_
                  refine lv_topl (fun v_30 ev_30 => ?_)
                  have ev_30 : v_30 = a0 - (t.1 13 (i - 1)) := ev_30
                  refine lv_lmul hx hb de_M_table_185 ?_
                  refine lv_topl (fun v_31 ev_31 => ?_)
                  have ev_31 : v_31 = v_29 * v_30 := ev_31
                  refine lv_ladd hx hb de_M_table_186 ?_
                  refine lv_topl (fun v_32 ev_32 => ?_)
                  have ev_32 : v_32 = v_28 + v_31 := ev_32
                  refine va_put (D := (dC, dI)) (ci := 9) (v := .long v_32) (ty := .long) (C := "StabilitySumsModel") (T := TB_M) (N := 33) hx hb hts ui_M tt_M tk_M nm_M hown hK hP hD hS 0 rfl rfl 31 (by decide) (hts _ uw_727) (fun _ h9 => h9) rfl (by decide +kernel) rfl rfl (Nat.le_of_ble_eq_true rfl) de_M_table_187 (fun H locs hP hD hS => ?_)
                  have hP : va_P (dC, dI) CLS (wM ad T (sF (sF (sF (sF (sF t 2 0) 3 1) 2 (t.1 14 (i - 1))) 3 v_27) 2 v_32)) H := hP
                  have hD : va_D A (wM ad T (sF (sF (sF (sF (sF t 2 0) 3 1) 2 (t.1 14 (i - 1))) 3 v_27) 2 v_32)) := hD
                  have hfin : (sF (sF (sF (sF (sF t 2 0) 3 1) 2 (t.1 14 (i - 1))) 3 v_27) 2 v_32) = y_tb 14 a0 t := by
                    have hU9 : y_tU 14 t a0 = v_32 := by
                      clear hP hD hS hl hK hN hts hA hown hml hx hb hr hlocks hQ hAe
                      unfold y_tU; simp only [y_one, y_two, hi9]; grind
                    have hD9 : y_tD t a0 = v_27 := by
                      clear hP hD hS hl hK hN hts hA hown hml hx hb hr hlocks hQ hAe
                      unfold y_tD; simp only [y_one, y_two, hi9]; grind
                    unfold y_tb; rw [hU9, hD9]; first | done | simp only [sF_idem, sF_c32]
                  rw [hfin] at hP hD
                  subst hQ
                  exact W.vret hx hb hr (fun t9 ht hW => ⟨⟨(), rfl, trivial, by rw [ht]; exact hP, va_K.moved hW.alike hK, hD⟩, hS.F ht⟩) hS.2.2 de_M_table_190
          · skip
            have c_23 : (t.2.2.2 3) = 0 := (nz0 (by omega)).mp c_23
            have hfin : (sF (sF t 2 0) 3 1) = y_tb 14 a0 t := by
              have hU9 : y_tU 14 t a0 = 0 := by
                clear hP hD hS hl hK hN hts hA hown hml hx hb hr hlocks hQ hAe
                unfold y_tU; simp only [y_one, y_two, hi9]; grind
              have hD9 : y_tD t a0 = 1 := by
                clear hP hD hS hl hK hN hts hA hown hml hx hb hr hlocks hQ hAe
                unfold y_tD; simp only [y_one, y_two, hi9]; grind
              unfold y_tb; rw [hU9, hD9]; first | done | simp only [sF_idem, sF_c32]
            rw [hfin] at hP hD
            subst hQ
            exact W.vret hx hb hr (fun t9 ht hW => ⟨⟨(), rfl, trivial, by rw [ht]; exact hP, va_K.moved hW.alike hK, hD⟩, hS.F ht⟩) hS.2.2 de_M_table_84
      · skip
        have c_9 : i = 0 := (nz0 (by omega)).mp c_9
        refine lv_iconst (v := 0) hx hb de_M_table_35 (by decide) ?_
        refine lv_goto (tgt := 43) hx hb de_M_table_36 (by decide) ?_
        refine lv_istore (lv' := [(5, .int 0), (0, .ref (ad 0)), (1, .long a0), (3, .int 1), (4, .int (nI i))]) hx hb de_M_table_43 hl (by decide) rfl (fun ls hl => ?_)
        refine lv_iload hx hb de_M_table_45 (lv_at hl 4 rfl) ?_
        refine lv_aload_n hx hb de_M_table_47 rfl (lv_at hl 1 rfl) ?_
        refine va_get (D := (dC, dI)) (ci := 9) (v := .int (nI (t.2.2.2 3))) (C := "StabilitySumsModel") (T := TB_M) (N := 33) hx hb hts ui_M hown hK hP 0 rfl rfl 16 (by decide) (hts _ uw_712) (fun _ h9 => h9) rfl de_M_table_48 ?_
        refine lv_icmp_ne (tgt := 63) hx hb de_M_table_51 (by decide) (fun c_33 => ?_) (fun c_33 => ?_)
        · skip
          have c_33 : ¬ (i = (t.2.2.2 3)) := fun z => c_33 ((nI_eq (a := i) (b := t.2.2.2 3) (by omega) (by omega)).mpr z)
          refine lv_iload hx hb de_M_table_63 (lv_at hl 4 rfl) ?_
          refine lv_istore (lv' := [(6, .int (nI i)), (5, .int 0), (0, .ref (ad 0)), (1, .long a0), (3, .int 1), (4, .int (nI i))]) hx hb de_M_table_65 hl (by decide) rfl (fun ls hl => ?_)
          refine lv_aload_n hx hb de_M_table_67 rfl (lv_at hl 2 rfl) ?_
          refine lv_lconst (v := 0) hx hb de_M_table_68 (by decide) ?_
          refine va_put (D := (dC, dI)) (ci := 9) (v := .long 0) (ty := .long) (C := "StabilitySumsModel") (T := TB_M) (N := 33) hx hb hts ui_M tt_M tk_M nm_M hown hK hP hD hS 0 rfl rfl 31 (by decide) (hts _ uw_727) (fun _ h9 => h9) rfl (by decide +kernel) rfl rfl (Nat.le_of_ble_eq_true rfl) de_M_table_69 (fun H locs hP hD hS => ?_)
          have hP : va_P (dC, dI) CLS (wM ad T (sF t 2 0)) H := hP
          have hD : va_D A (wM ad T (sF t 2 0)) := hD
          refine lv_aload_n hx hb de_M_table_72 rfl (lv_at hl 2 rfl) ?_
          refine lv_lconst (v := 1) hx hb de_M_table_73 (by decide) ?_
          refine va_put (D := (dC, dI)) (ci := 9) (v := .long 1) (ty := .long) (C := "StabilitySumsModel") (T := TB_M) (N := 33) hx hb hts ui_M tt_M tk_M nm_M hown hK hP hD hS 0 rfl rfl 32 (by decide) (hts _ uw_728) (fun _ h9 => h9) rfl (by decide +kernel) rfl rfl (Nat.le_of_ble_eq_true rfl) de_M_table_74 (fun H locs hP hD hS => ?_)
          have hP : va_P (dC, dI) CLS (wM ad T (sF (sF t 2 0) 3 1)) H := hP
          have hD : va_D A (wM ad T (sF (sF t 2 0) 3 1)) := hD
          refine lv_aload_n hx hb de_M_table_77 rfl (lv_at hl 2 rfl) ?_
          refine va_get (D := (dC, dI)) (ci := 9) (v := .int (nI (t.2.2.2 3))) (C := "StabilitySumsModel") (T := TB_M) (N := 33) hx hb hts ui_M hown hK hP 0 rfl rfl 16 (by decide) (hts _ uw_712) (fun _ h9 => h9) rfl de_M_table_78 ?_
          refine lv_if_ne (tgt := 85) hx hb de_M_table_81 (by decide) (fun c_34 => ?_) (fun c_34 => ?_)
          · skip
            have c_34 : ¬ (t.2.2.2 3) = 0 := fun z => c_34 ((nz0 (by omega)).mpr z)
            refine lv_iload_n hx hb de_M_table_85 rfl (lv_at hl 4 rfl) ?_
            refine lv_if_eq (tgt := 99) hx hb de_M_table_86 (by decide) (fun c_35 => ?_) (fun c_35 => ?_)
            · skip
              exact absurd c_35 (by decide)
            · skip
              refine lv_aload_n hx hb de_M_table_89 rfl (lv_at hl 2 rfl) ?_
              refine va_get (D := (dC, dI)) (ci := 9) (v := .ref (ad 15)) (C := "StabilitySumsModel") (T := TB_M) (N := 33) hx hb hts ui_M hown hK hP 0 rfl rfl 18 (by decide) (hts _ uw_714) (fun _ h9 => h9) rfl de_M_table_90 ?_
              refine lv_iload hx hb de_M_table_93 (lv_at hl 1 rfl) ?_
              refine rw_lald (f := t.1 14) (j := 0) hx hb hK hP 15 0 rfl rfl (by decide) (by decide) de_M_table_95 ?_
              refine lv_goto (tgt := 106) hx hb de_M_table_96 (by decide) ?_
              refine lv_lstore (lv' := [(7, .long (t.1 14 0)), (6, .int (nI i)), (5, .int 0), (0, .ref (ad 0)), (1, .long a0), (3, .int 1), (4, .int (nI i))]) hx hb de_M_table_106 hl (by decide) rfl (fun ls hl => ?_)
              refine lv_iload_n hx hb de_M_table_108 rfl (lv_at hl 5 rfl) ?_
              refine lv_if_eq (tgt := 122) hx hb de_M_table_109 (by decide) (fun c_36 => ?_) (fun c_36 => ?_)
              · skip
                exact absurd c_36 (by decide)
              · skip
                refine lv_aload_n hx hb de_M_table_112 rfl (lv_at hl 3 rfl) ?_
                refine va_get (D := (dC, dI)) (ci := 9) (v := .ref (ad 15)) (C := "StabilitySumsModel") (T := TB_M) (N := 33) hx hb hts ui_M hown hK hP 0 rfl rfl 18 (by decide) (hts _ uw_714) (fun _ h9 => h9) rfl de_M_table_113 ?_
                refine lv_iload hx hb de_M_table_116 (lv_at hl 1 rfl) ?_
                refine rw_lald (f := t.1 14) (j := i) hx hb hK hP 15 0 rfl rfl (by omega) (by decide) de_M_table_118 ?_
                refine lv_goto (tgt := 129) hx hb de_M_table_119 (by decide) ?_
                refine lv_lstore (lv' := [(9, .long (t.1 14 i)), (7, .long (t.1 14 0)), (6, .int (nI i)), (5, .int 0), (0, .ref (ad 0)), (1, .long a0), (3, .int 1), (4, .int (nI i))]) hx hb de_M_table_129 hl (by decide) rfl (fun ls hl => ?_)
                refine lv_aload_n hx hb de_M_table_131 rfl (lv_at hl 4 rfl) ?_
                refine lv_lload hx hb de_M_table_132 (lv_at hl 1 rfl) ?_
                refine va_put (D := (dC, dI)) (ci := 9) (v := .long (t.1 14 0)) (ty := .long) (C := "StabilitySumsModel") (T := TB_M) (N := 33) hx hb hts ui_M tt_M tk_M nm_M hown hK hP hD hS 0 rfl rfl 31 (by decide) (hts _ uw_727) (fun _ h9 => h9) rfl (by decide +kernel) rfl rfl (Nat.le_of_ble_eq_true rfl) de_M_table_134 (fun H locs hP hD hS => ?_)
                have hP : va_P (dC, dI) CLS (wM ad T (sF (sF (sF t 2 0) 3 1) 2 (t.1 14 0))) H := hP
                have hD : va_D A (wM ad T (sF (sF (sF t 2 0) 3 1) 2 (t.1 14 0))) := hD
                refine lv_iload hx hb de_M_table_137 (lv_at hl 3 rfl) ?_
                refine lv_iload hx hb de_M_table_139 (lv_at hl 2 rfl) ?_
                refine lv_icmp_eq (tgt := 190) hx hb de_M_table_141 (by decide) (fun c_37 => ?_) (fun c_37 => ?_)
                · skip
                  have c_37 : 0 = i := (nI_eq (a := 0) (b := i) (by omega) (by omega)).mp c_37
                  have hfin : (sF (sF (sF t 2 0) 3 1) 2 (t.1 14 0)) = y_tb 14 a0 t := by
                    have hU9 : y_tU 14 t a0 = (t.1 14 0) := by
                      clear hP hD hS hl hK hN hts hA hown hml hx hb hr hlocks hQ hAe
                      unfold y_tU; simp only [y_one, y_two, hi9]; grind
                    have hD9 : y_tD t a0 = 1 := by
                      clear hP hD hS hl hK hN hts hA hown hml hx hb hr hlocks hQ hAe
                      unfold y_tD; simp only [y_one, y_two, hi9]; grind
                    unfold y_tb; rw [hU9, hD9]; first | done | simp only [sF_idem, sF_c32]
                  rw [hfin] at hP hD
                  subst hQ
                  exact W.vret hx hb hr (fun t9 ht hW => ⟨⟨(), rfl, trivial, by rw [ht]; exact hP, va_K.moved hW.alike hK, hD⟩, hS.F ht⟩) hS.2.2 de_M_table_190
                · skip
                  have c_37 : ¬ (0 = i) := fun z => c_37 ((nI_eq (a := 0) (b := i) (by omega) (by omega)).mpr z)
                  refine lv_aload_n hx hb de_M_table_144 rfl (lv_at hl 4 rfl) ?_
                  refine lv_aload_n hx hb de_M_table_145 rfl (lv_at hl 4 rfl) ?_
                  refine va_get (D := (dC, dI)) (ci := 9) (v := .ref (ad 14)) (C := "StabilitySumsModel") (T := TB_M) (N := 33) hx hb hts ui_M hown hK hP 0 rfl rfl 17 (by decide) (hts _ uw_713) (fun _ h9 => h9) rfl de_M_table_146 ?_
                  refine lv_iload hx hb de_M_table_149 (lv_at hl 2 rfl) ?_
                  refine rw_lald (f := t.1 13) (j := i) hx hb hK hP 14 0 rfl rfl (by omega) (by decide) de_M_table_151 ?_
                  refine lv_aload_n hx hb de_M_table_152 rfl (lv_at hl 4 rfl) ?_
                  refine va_get (D := (dC, dI)) (ci := 9) (v := .ref (ad 14)) (C := "StabilitySumsModel") (T := TB_M) (N := 33) hx hb hts ui_M hown hK hP 0 rfl rfl 17 (by decide) (hts _ uw_713) (fun _ h9 => h9) rfl de_M_table_153 ?_
                  refine lv_iload hx hb de_M_table_156 (lv_at hl 3 rfl) ?_
                  refine rw_lald (f := t.1 13) (j := 0) hx hb hK hP 14 0 rfl rfl (by decide) (by decide) de_M_table_158 ?_
                  refine lv_lsub hx hb de_M_table_159 ?_
                  refine lv_topl (fun v_38 ev_38 => ?_)
                  have ev_38 : v_38 = (t.1 13 i) - (t.1 13 0) := ev_38
                  refine va_put (D := (dC, dI)) (ci := 9) (v := .long v_38) (ty := .long) (C := "StabilitySumsModel") (T := TB_M) (N := 33) hx hb hts ui_M tt_M tk_M nm_M hown hK hP hD hS 0 rfl rfl 32 (by decide) (hts _ uw_728) (fun _ h9 => h9) rfl (by decide +kernel) rfl rfl (Nat.le_of_ble_eq_true rfl) de_M_table_160 (fun H locs hP hD hS => ?_)
                  have hP : va_P (dC, dI) CLS (wM ad T (sF (sF (sF (sF t 2 0) 3 1) 2 (t.1 14 0)) 3 v_38)) H := hP
                  have hD : va_D A (wM ad T (sF (sF (sF (sF t 2 0) 3 1) 2 (t.1 14 0)) 3 v_38)) := hD
                  refine lv_aload_n hx hb de_M_table_163 rfl (lv_at hl 4 rfl) ?_
                  refine lv_lload hx hb de_M_table_164 (lv_at hl 1 rfl) ?_
                  refine lv_aload_n hx hb de_M_table_166 rfl (lv_at hl 4 rfl) ?_
                  refine va_get (D := (dC, dI)) (ci := 9) (v := .long v_38) (C := "StabilitySumsModel") (T := TB_M) (N := 33) hx hb hts ui_M hown hK hP 0 rfl rfl 32 (by decide) (hts _ uw_728) (fun _ h9 => h9) rfl de_M_table_167 ?_
                  refine lv_lmul hx hb de_M_table_170 ?_
                  refine lv_topl (fun v_39 ev_39 => ?_)
                  have ev_39 : v_39 = (t.1 14 0) * v_38 := ev_39
                  refine lv_lload hx hb de_M_table_171 (lv_at hl 0 rfl) ?_
                  refine lv_lload hx hb de_M_table_173 (lv_at hl 1 rfl) ?_
                  refine lv_lsub hx hb de_M_table_175 ?_
                  refine lv_topl (fun v_40 ev_40 => ?_)
                  have ev_40 : v_40 = (t.1 14 i) - (t.1 14 0) := ev_40
                  refine lv_lload_n hx hb de_M_table_176 rfl (lv_at hl 5 rfl) ?_
                  refine lv_aload_n hx hb de_M_table_177 rfl (lv_at hl 4 rfl) ?_
                  refine va_get (D := (dC, dI)) (ci := 9) (v := .ref (ad 14)) (C := "StabilitySumsModel") (T := TB_M) (N := 33) hx hb hts ui_M hown hK hP 0 rfl rfl 17 (by decide) (hts _ uw_713) (fun _ h9 => h9) rfl de_M_table_178 ?_
                  refine lv_iload hx hb de_M_table_181 (lv_at hl 3 rfl) ?_
                  refine rw_lald (f := t.1 13) (j := 0) hx hb hK hP 14 0 rfl rfl (by decide) (by decide) de_M_table_183 ?_
                  refine lv_lsub hx hb de_M_table_184 ?_
                  refine lv_topl (fun v_41 ev_41 => ?_)
                  have ev_41 : v_41 = a0 - (t.1 13 0) := ev_41
                  refine lv_lmul hx hb de_M_table_185 ?_
                  refine lv_topl (fun v_42 ev_42 => ?_)
                  have ev_42 : v_42 = v_40 * v_41 := ev_42
                  refine lv_ladd hx hb de_M_table_186 ?_
                  refine lv_topl (fun v_43 ev_43 => ?_)
                  have ev_43 : v_43 = v_39 + v_42 := ev_43
                  refine va_put (D := (dC, dI)) (ci := 9) (v := .long v_43) (ty := .long) (C := "StabilitySumsModel") (T := TB_M) (N := 33) hx hb hts ui_M tt_M tk_M nm_M hown hK hP hD hS 0 rfl rfl 31 (by decide) (hts _ uw_727) (fun _ h9 => h9) rfl (by decide +kernel) rfl rfl (Nat.le_of_ble_eq_true rfl) de_M_table_187 (fun H locs hP hD hS => ?_)
                  have hP : va_P (dC, dI) CLS (wM ad T (sF (sF (sF (sF (sF t 2 0) 3 1) 2 (t.1 14 0)) 3 v_38) 2 v_43)) H := hP
                  have hD : va_D A (wM ad T (sF (sF (sF (sF (sF t 2 0) 3 1) 2 (t.1 14 0)) 3 v_38) 2 v_43)) := hD
                  have hfin : (sF (sF (sF (sF (sF t 2 0) 3 1) 2 (t.1 14 0)) 3 v_38) 2 v_43) = y_tb 14 a0 t := by
                    have hU9 : y_tU 14 t a0 = v_43 := by
                      clear hP hD hS hl hK hN hts hA hown hml hx hb hr hlocks hQ hAe
                      unfold y_tU; simp only [y_one, y_two, hi9]; grind
                    have hD9 : y_tD t a0 = v_38 := by
                      clear hP hD hS hl hK hN hts hA hown hml hx hb hr hlocks hQ hAe
                      unfold y_tD; simp only [y_one, y_two, hi9]; grind
                    unfold y_tb; rw [hU9, hD9]; first | done | simp only [sF_idem, sF_c32]
                  rw [hfin] at hP hD
                  subst hQ
                  exact W.vret hx hb hr (fun t9 ht hW => ⟨⟨(), rfl, trivial, by rw [ht]; exact hP, va_K.moved hW.alike hK, hD⟩, hS.F ht⟩) hS.2.2 de_M_table_190
          · skip
            have c_34 : (t.2.2.2 3) = 0 := (nz0 (by omega)).mp c_34
            have hfin : (sF (sF t 2 0) 3 1) = y_tb 14 a0 t := by
              have hU9 : y_tU 14 t a0 = 0 := by
                clear hP hD hS hl hK hN hts hA hown hml hx hb hr hlocks hQ hAe
                unfold y_tU; simp only [y_one, y_two, hi9]; grind
              have hD9 : y_tD t a0 = 1 := by
                clear hP hD hS hl hK hN hts hA hown hml hx hb hr hlocks hQ hAe
                unfold y_tD; simp only [y_one, y_two, hi9]; grind
              unfold y_tb; rw [hU9, hD9]; first | done | simp only [sF_idem, sF_c32]
            rw [hfin] at hP hD
            subst hQ
            exact W.vret hx hb hr (fun t9 ht hW => ⟨⟨(), rfl, trivial, by rw [ht]; exact hP, va_K.moved hW.alike hK, hD⟩, hS.F ht⟩) hS.2.2 de_M_table_84
        · skip
          have c_33 : i = (t.2.2.2 3) := (nI_eq (a := i) (b := t.2.2.2 3) (by omega) (by omega)).mp c_33
          refine lv_aload_n hx hb de_M_table_54 rfl (lv_at hl 1 rfl) ?_
          refine va_get (D := (dC, dI)) (ci := 9) (v := .int (nI (t.2.2.2 3))) (C := "StabilitySumsModel") (T := TB_M) (N := 33) hx hb hts ui_M hown hK hP 0 rfl rfl 16 (by decide) (hts _ uw_712) (fun _ h9 => h9) rfl de_M_table_55 ?_
          refine lv_iconst (v := 1) hx hb de_M_table_58 (by decide) ?_
          refine lv_isub hx hb de_M_table_59 ?_
          refine lv_topi (fun v_44 ev_44 => ?_)
          have ev_44 : v_44 = (nI ((t.2.2.2 3) - 1)) := ev_44.trans (pk_sub (a := t.2.2.2 3) (b := 1) (by omega))
          subst ev_44
          refine lv_goto (tgt := 65) hx hb de_M_table_60 (by decide) ?_
          refine lv_istore (lv' := [(6, .int (nI ((t.2.2.2 3) - 1))), (5, .int 0), (0, .ref (ad 0)), (1, .long a0), (3, .int 1), (4, .int (nI i))]) hx hb de_M_table_65 hl (by decide) rfl (fun ls hl => ?_)
          refine lv_aload_n hx hb de_M_table_67 rfl (lv_at hl 2 rfl) ?_
          refine lv_lconst (v := 0) hx hb de_M_table_68 (by decide) ?_
          refine va_put (D := (dC, dI)) (ci := 9) (v := .long 0) (ty := .long) (C := "StabilitySumsModel") (T := TB_M) (N := 33) hx hb hts ui_M tt_M tk_M nm_M hown hK hP hD hS 0 rfl rfl 31 (by decide) (hts _ uw_727) (fun _ h9 => h9) rfl (by decide +kernel) rfl rfl (Nat.le_of_ble_eq_true rfl) de_M_table_69 (fun H locs hP hD hS => ?_)
          have hP : va_P (dC, dI) CLS (wM ad T (sF t 2 0)) H := hP
          have hD : va_D A (wM ad T (sF t 2 0)) := hD
          refine lv_aload_n hx hb de_M_table_72 rfl (lv_at hl 2 rfl) ?_
          refine lv_lconst (v := 1) hx hb de_M_table_73 (by decide) ?_
          refine va_put (D := (dC, dI)) (ci := 9) (v := .long 1) (ty := .long) (C := "StabilitySumsModel") (T := TB_M) (N := 33) hx hb hts ui_M tt_M tk_M nm_M hown hK hP hD hS 0 rfl rfl 32 (by decide) (hts _ uw_728) (fun _ h9 => h9) rfl (by decide +kernel) rfl rfl (Nat.le_of_ble_eq_true rfl) de_M_table_74 (fun H locs hP hD hS => ?_)
          have hP : va_P (dC, dI) CLS (wM ad T (sF (sF t 2 0) 3 1)) H := hP
          have hD : va_D A (wM ad T (sF (sF t 2 0) 3 1)) := hD
          refine lv_aload_n hx hb de_M_table_77 rfl (lv_at hl 2 rfl) ?_
          refine va_get (D := (dC, dI)) (ci := 9) (v := .int (nI (t.2.2.2 3))) (C := "StabilitySumsModel") (T := TB_M) (N := 33) hx hb hts ui_M hown hK hP 0 rfl rfl 16 (by decide) (hts _ uw_712) (fun _ h9 => h9) rfl de_M_table_78 ?_
          refine lv_if_ne (tgt := 85) hx hb de_M_table_81 (by decide) (fun c_45 => ?_) (fun c_45 => ?_)
          · skip
            have c_45 : ¬ (t.2.2.2 3) = 0 := fun z => c_45 ((nz0 (by omega)).mpr z)
            refine lv_iload_n hx hb de_M_table_85 rfl (lv_at hl 4 rfl) ?_
            refine lv_if_eq (tgt := 99) hx hb de_M_table_86 (by decide) (fun c_46 => ?_) (fun c_46 => ?_)
            · skip
              exact absurd c_46 (by decide)
            · skip
              refine lv_aload_n hx hb de_M_table_89 rfl (lv_at hl 2 rfl) ?_
              refine va_get (D := (dC, dI)) (ci := 9) (v := .ref (ad 15)) (C := "StabilitySumsModel") (T := TB_M) (N := 33) hx hb hts ui_M hown hK hP 0 rfl rfl 18 (by decide) (hts _ uw_714) (fun _ h9 => h9) rfl de_M_table_90 ?_
              refine lv_iload hx hb de_M_table_93 (lv_at hl 1 rfl) ?_
              refine rw_lald (f := t.1 14) (j := 0) hx hb hK hP 15 0 rfl rfl (by decide) (by decide) de_M_table_95 ?_
              refine lv_goto (tgt := 106) hx hb de_M_table_96 (by decide) ?_
              refine lv_lstore (lv' := [(7, .long (t.1 14 0)), (6, .int (nI ((t.2.2.2 3) - 1))), (5, .int 0), (0, .ref (ad 0)), (1, .long a0), (3, .int 1), (4, .int (nI i))]) hx hb de_M_table_106 hl (by decide) rfl (fun ls hl => ?_)
              refine lv_iload_n hx hb de_M_table_108 rfl (lv_at hl 5 rfl) ?_
              refine lv_if_eq (tgt := 122) hx hb de_M_table_109 (by decide) (fun c_47 => ?_) (fun c_47 => ?_)
              · skip
                exact absurd c_47 (by decide)
              · skip
                refine lv_aload_n hx hb de_M_table_112 rfl (lv_at hl 3 rfl) ?_
                refine va_get (D := (dC, dI)) (ci := 9) (v := .ref (ad 15)) (C := "StabilitySumsModel") (T := TB_M) (N := 33) hx hb hts ui_M hown hK hP 0 rfl rfl 18 (by decide) (hts _ uw_714) (fun _ h9 => h9) rfl de_M_table_113 ?_
                refine lv_iload hx hb de_M_table_116 (lv_at hl 1 rfl) ?_
                refine rw_lald (f := t.1 14) (j := ((t.2.2.2 3) - 1)) hx hb hK hP 15 0 rfl rfl (by omega) (by decide) de_M_table_118 ?_
                refine lv_goto (tgt := 129) hx hb de_M_table_119 (by decide) ?_
                refine lv_lstore (lv' := [(9, .long (t.1 14 ((t.2.2.2 3) - 1))), (7, .long (t.1 14 0)), (6, .int (nI ((t.2.2.2 3) - 1))), (5, .int 0), (0, .ref (ad 0)), (1, .long a0), (3, .int 1), (4, .int (nI i))]) hx hb de_M_table_129 hl (by decide) rfl (fun ls hl => ?_)
                refine lv_aload_n hx hb de_M_table_131 rfl (lv_at hl 4 rfl) ?_
                refine lv_lload hx hb de_M_table_132 (lv_at hl 1 rfl) ?_
                refine va_put (D := (dC, dI)) (ci := 9) (v := .long (t.1 14 0)) (ty := .long) (C := "StabilitySumsModel") (T := TB_M) (N := 33) hx hb hts ui_M tt_M tk_M nm_M hown hK hP hD hS 0 rfl rfl 31 (by decide) (hts _ uw_727) (fun _ h9 => h9) rfl (by decide +kernel) rfl rfl (Nat.le_of_ble_eq_true rfl) de_M_table_134 (fun H locs hP hD hS => ?_)
                have hP : va_P (dC, dI) CLS (wM ad T (sF (sF (sF t 2 0) 3 1) 2 (t.1 14 0))) H := hP
                have hD : va_D A (wM ad T (sF (sF (sF t 2 0) 3 1) 2 (t.1 14 0))) := hD
                refine lv_iload hx hb de_M_table_137 (lv_at hl 3 rfl) ?_
                refine lv_iload hx hb de_M_table_139 (lv_at hl 2 rfl) ?_
                refine lv_icmp_eq (tgt := 190) hx hb de_M_table_141 (by decide) (fun c_48 => ?_) (fun c_48 => ?_)
                · skip
                  have c_48 : 0 = ((t.2.2.2 3) - 1) := (nI_eq (a := 0) (b := (t.2.2.2 3) - 1) (by omega) (by omega)).mp c_48
                  have hfin : (sF (sF (sF t 2 0) 3 1) 2 (t.1 14 0)) = y_tb 14 a0 t := by
                    have hU9 : y_tU 14 t a0 = (t.1 14 0) := by
                      clear hP hD hS hl hK hN hts hA hown hml hx hb hr hlocks hQ hAe
                      unfold y_tU; simp only [y_one, y_two, hi9]; grind
                    have hD9 : y_tD t a0 = 1 := by
                      clear hP hD hS hl hK hN hts hA hown hml hx hb hr hlocks hQ hAe
                      unfold y_tD; simp only [y_one, y_two, hi9]; grind
                    unfold y_tb; rw [hU9, hD9]; first | done | simp only [sF_idem, sF_c32]
                  rw [hfin] at hP hD
                  subst hQ
                  exact W.vret hx hb hr (fun t9 ht hW => ⟨⟨(), rfl, trivial, by rw [ht]; exact hP, va_K.moved hW.alike hK, hD⟩, hS.F ht⟩) hS.2.2 de_M_table_190
                · skip
                  have c_48 : ¬ (0 = ((t.2.2.2 3) - 1)) := fun z => c_48 ((nI_eq (a := 0) (b := (t.2.2.2 3) - 1) (by omega) (by omega)).mpr z)
                  refine lv_aload_n hx hb de_M_table_144 rfl (lv_at hl 4 rfl) ?_
                  refine lv_aload_n hx hb de_M_table_145 rfl (lv_at hl 4 rfl) ?_
                  refine va_get (D := (dC, dI)) (ci := 9) (v := .ref (ad 14)) (C := "StabilitySumsModel") (T := TB_M) (N := 33) hx hb hts ui_M hown hK hP 0 rfl rfl 17 (by decide) (hts _ uw_713) (fun _ h9 => h9) rfl de_M_table_146 ?_
                  refine lv_iload hx hb de_M_table_149 (lv_at hl 2 rfl) ?_
                  refine rw_lald (f := t.1 13) (j := ((t.2.2.2 3) - 1)) hx hb hK hP 14 0 rfl rfl (by omega) (by decide) de_M_table_151 ?_
                  refine lv_aload_n hx hb de_M_table_152 rfl (lv_at hl 4 rfl) ?_
                  refine va_get (D := (dC, dI)) (ci := 9) (v := .ref (ad 14)) (C := "StabilitySumsModel") (T := TB_M) (N := 33) hx hb hts ui_M hown hK hP 0 rfl rfl 17 (by decide) (hts _ uw_713) (fun _ h9 => h9) rfl de_M_table_153 ?_
                  refine lv_iload hx hb de_M_table_156 (lv_at hl 3 rfl) ?_
                  refine rw_lald (f := t.1 13) (j := 0) hx hb hK hP 14 0 rfl rfl (by decide) (by decide) de_M_table_158 ?_
                  refine lv_lsub hx hb de_M_table_159 ?_
                  refine lv_topl (fun v_49 ev_49 => ?_)
                  have ev_49 : v_49 = (t.1 13 ((t.2.2.2 3) - 1)) - (t.1 13 0) := ev_49
                  refine va_put (D := (dC, dI)) (ci := 9) (v := .long v_49) (ty := .long) (C := "StabilitySumsModel") (T := TB_M) (N := 33) hx hb hts ui_M tt_M tk_M nm_M hown hK hP hD hS 0 rfl rfl 32 (by decide) (hts _ uw_728) (fun _ h9 => h9) rfl (by decide +kernel) rfl rfl (Nat.le_of_ble_eq_true rfl) de_M_table_160 (fun H locs hP hD hS => ?_)
                  have hP : va_P (dC, dI) CLS (wM ad T (sF (sF (sF (sF t 2 0) 3 1) 2 (t.1 14 0)) 3 v_49)) H := hP
                  have hD : va_D A (wM ad T (sF (sF (sF (sF t 2 0) 3 1) 2 (t.1 14 0)) 3 v_49)) := hD
                  refine lv_aload_n hx hb de_M_table_163 rfl (lv_at hl 4 rfl) ?_
                  refine lv_lload hx hb de_M_table_164 (lv_at hl 1 rfl) ?_
                  refine lv_aload_n hx hb de_M_table_166 rfl (lv_at hl 4 rfl) ?_
                  refine va_get (D := (dC, dI)) (ci := 9) (v := .long v_49) (C := "StabilitySumsModel") (T := TB_M) (N := 33) hx hb hts ui_M hown hK hP 0 rfl rfl 32 (by decide) (hts _ uw_728) (fun _ h9 => h9) rfl de_M_table_167 ?_
                  refine lv_lmul hx hb de_M_table_170 ?_
                  refine lv_topl (fun v_50 ev_50 => ?_)
                  have ev_50 : v_50 = (t.1 14 0) * v_49 := ev_50
                  refine lv_lload hx hb de_M_table_171 (lv_at hl 0 rfl) ?_
                  refine lv_lload hx hb de_M_table_173 (lv_at hl 1 rfl) ?_
                  refine lv_lsub hx hb de_M_table_175 ?_
                  refine lv_topl (fun v_51 ev_51 => ?_)
                  have ev_51 : v_51 = (t.1 14 ((t.2.2.2 3) - 1)) - (t.1 14 0) := ev_51
                  refine lv_lload_n hx hb de_M_table_176 rfl (lv_at hl 5 rfl) ?_
                  refine lv_aload_n hx hb de_M_table_177 rfl (lv_at hl 4 rfl) ?_
                  refine va_get (D := (dC, dI)) (ci := 9) (v := .ref (ad 14)) (C := "StabilitySumsModel") (T := TB_M) (N := 33) hx hb hts ui_M hown hK hP 0 rfl rfl 17 (by decide) (hts _ uw_713) (fun _ h9 => h9) rfl de_M_table_178 ?_
                  refine lv_iload hx hb de_M_table_181 (lv_at hl 3 rfl) ?_
                  refine rw_lald (f := t.1 13) (j := 0) hx hb hK hP 14 0 rfl rfl (by decide) (by decide) de_M_table_183 ?_
                  refine lv_lsub hx hb de_M_table_184 ?_
                  refine lv_topl (fun v_52 ev_52 => ?_)
                  have ev_52 : v_52 = a0 - (t.1 13 0) := ev_52
                  refine lv_lmul hx hb de_M_table_185 ?_
                  refine lv_topl (fun v_53 ev_53 => ?_)
                  have ev_53 : v_53 = v_51 * v_52 := ev_53
                  refine lv_ladd hx hb de_M_table_186 ?_
                  refine lv_topl (fun v_54 ev_54 => ?_)
                  have ev_54 : v_54 = v_50 + v_53 := ev_54
                  refine va_put (D := (dC, dI)) (ci := 9) (v := .long v_54) (ty := .long) (C := "StabilitySumsModel") (T := TB_M) (N := 33) hx hb hts ui_M tt_M tk_M nm_M hown hK hP hD hS 0 rfl rfl 31 (by decide) (hts _ uw_727) (fun _ h9 => h9) rfl (by decide +kernel) rfl rfl (Nat.le_of_ble_eq_true rfl) de_M_table_187 (fun H locs hP hD hS => ?_)
                  have hP : va_P (dC, dI) CLS (wM ad T (sF (sF (sF (sF (sF t 2 0) 3 1) 2 (t.1 14 0)) 3 v_49) 2 v_54)) H := hP
                  have hD : va_D A (wM ad T (sF (sF (sF (sF (sF t 2 0) 3 1) 2 (t.1 14 0)) 3 v_49) 2 v_54)) := hD
                  have hfin : (sF (sF (sF (sF (sF t 2 0) 3 1) 2 (t.1 14 0)) 3 v_49) 2 v_54) = y_tb 14 a0 t := by
                    have hU9 : y_tU 14 t a0 = v_54 := by
                      clear hP hD hS hl hK hN hts hA hown hml hx hb hr hlocks hQ hAe
                      unfold y_tU; simp only [y_one, y_two, hi9]; grind
                    have hD9 : y_tD t a0 = v_49 := by
                      clear hP hD hS hl hK hN hts hA hown hml hx hb hr hlocks hQ hAe
                      unfold y_tD; simp only [y_one, y_two, hi9]; grind
                    unfold y_tb; rw [hU9, hD9]; first | done | simp only [sF_idem, sF_c32]
                  rw [hfin] at hP hD
                  subst hQ
                  exact W.vret hx hb hr (fun t9 ht hW => ⟨⟨(), rfl, trivial, by rw [ht]; exact hP, va_K.moved hW.alike hK, hD⟩, hS.F ht⟩) hS.2.2 de_M_table_190
          · skip
            have c_45 : (t.2.2.2 3) = 0 := (nz0 (by omega)).mp c_45
            have hfin : (sF (sF t 2 0) 3 1) = y_tb 14 a0 t := by
              have hU9 : y_tU 14 t a0 = 0 := by
                clear hP hD hS hl hK hN hts hA hown hml hx hb hr hlocks hQ hAe
                unfold y_tU; simp only [y_one, y_two, hi9]; grind
              have hD9 : y_tD t a0 = 1 := by
                clear hP hD hS hl hK hN hts hA hown hml hx hb hr hlocks hQ hAe
                unfold y_tD; simp only [y_one, y_two, hi9]; grind
              unfold y_tb; rw [hU9, hD9]; first | done | simp only [sF_idem, sF_c32]
            rw [hfin] at hP hD
            subst hQ
            exact W.vret hx hb hr (fun t9 ht hW => ⟨⟨(), rfl, trivial, by rw [ht]; exact hP, va_K.moved hW.alike hK, hD⟩, hS.F ht⟩) hS.2.2 de_M_table_84
  refine lv_iconst (v := 0) hx hb de_M_table_0 (by decide) ?_
  refine lv_istore (lv' := [(4, .int 0), (0, .ref (ad 0)), (1, .long a0), (3, .int 1)]) hx hb de_M_table_1 hl (by decide) rfl (fun ls hl => ?_)
  have loop_3 : ∀ (n : Nat) (i : Nat), (i + n = t.2.2.2 3) → (y_abv t.1 a0 n i = y_k t a0) → ∀ (H : Heap) (locs : List Loc) (ls : Array Slot), va_P (dC, dI) CLS (wM ad T t) H → va_D A (wM ad T t) → va_S A s.heap H locs → lv_has ls 11 [(0, .ref (ad 0)), (1, .long a0), (3, .int 1), (4, .int (nI i))] → W p l e (headSpec (.code yn_M_table cd_M_table 11 none :: UW) ({ frames := 0, cells := 0, slots := 0, locals := 0 } : Room)).room s m ([.ref (ad 0), .long a0, .int 1] : List Value).toArray below meth c H locs 0 0 Q (F0 m 3 ls []) := by
    intro n
    induction n with
    | zero =>
      intro i hi hq H locs ls hP hD hS hl
      refine lv_iload hx hb de_M_table_3 (lv_at hl 3 rfl) ?_
      refine lv_aload_n hx hb de_M_table_5 rfl (lv_at hl 0 rfl) ?_
      refine va_get (D := (dC, dI)) (ci := 9) (v := .int (nI (t.2.2.2 3))) (C := "StabilitySumsModel") (T := TB_M) (N := 33) hx hb hts ui_M hown hK hP 0 rfl rfl 16 (by decide) (hts _ uw_712) (fun _ h9 => h9) rfl de_M_table_6 ?_
      refine lv_icmp_ge (tgt := 30) hx hb de_M_table_9 (by decide) (fun c_55 => ?_) (fun c_55 => ?_)
      · skip
        have c_55 : (t.2.2.2 3) ≤ i := (nI_leI (a := t.2.2.2 3) (b := i) (by omega) (by omega)).mp c_55
        exact join_30 i (by rw [← hq]; first | rfl | (rw [y_abv, if_pos c_55])) (by omega) _ _ ls hP hD hS (lv_sub hl [0, 1, 2, 3] rfl)
      · skip
        have c_55 : ¬ ((t.2.2.2 3) ≤ i) := fun z => c_55 ((nI_leI (a := t.2.2.2 3) (b := i) (by omega) (by omega)).mpr z)
        exfalso; omega
    | succ n ih =>
      intro i hi hq H locs ls hP hD hS hl
      refine lv_iload hx hb de_M_table_3 (lv_at hl 3 rfl) ?_
      refine lv_aload_n hx hb de_M_table_5 rfl (lv_at hl 0 rfl) ?_
      refine va_get (D := (dC, dI)) (ci := 9) (v := .int (nI (t.2.2.2 3))) (C := "StabilitySumsModel") (T := TB_M) (N := 33) hx hb hts ui_M hown hK hP 0 rfl rfl 16 (by decide) (hts _ uw_712) (fun _ h9 => h9) rfl de_M_table_6 ?_
      refine lv_icmp_ge (tgt := 30) hx hb de_M_table_9 (by decide) (fun c_56 => ?_) (fun c_56 => ?_)
      · skip
        have c_56 : (t.2.2.2 3) ≤ i := (nI_leI (a := t.2.2.2 3) (b := i) (by omega) (by omega)).mp c_56
        exfalso; omega
      · skip
        have c_56 : ¬ ((t.2.2.2 3) ≤ i) := fun z => c_56 ((nI_leI (a := t.2.2.2 3) (b := i) (by omega) (by omega)).mpr z)
        refine lv_aload_n hx hb de_M_table_12 rfl (lv_at hl 0 rfl) ?_
        refine va_get (D := (dC, dI)) (ci := 9) (v := .ref (ad 14)) (C := "StabilitySumsModel") (T := TB_M) (N := 33) hx hb hts ui_M hown hK hP 0 rfl rfl 17 (by decide) (hts _ uw_713) (fun _ h9 => h9) rfl de_M_table_13 ?_
        refine lv_iload hx hb de_M_table_16 (lv_at hl 3 rfl) ?_
        refine rw_lald (f := t.1 13) (j := i) hx hb hK hP 14 0 rfl rfl (by omega) (by decide) de_M_table_18 ?_
        refine lv_lload_n hx hb de_M_table_19 rfl (lv_at hl 1 rfl) ?_
        refine rw_ge (tgt := 30) hx hb de_M_table_20 de_M_table_21 (by decide) (fun c_57 => ?_) (fun c_57 => ?_)
        · skip
          exact join_30 i (by rw [← hq]; first | rfl | (rw [y_abv, if_pos c_57])) (by omega) _ _ ls hP hD hS (lv_sub hl [0, 1, 2, 3] rfl)
        · skip
          refine lv_iinc (v := (nI (i + 1))) (lv' := [(4, .int (nI (i + 1))), (0, .ref (ad 0)), (1, .long a0), (3, .int 1)]) hx hb de_M_table_24 hl (k := 3) rfl (nI_1 i) (by decide) rfl (fun ls hl => ?_)
          refine lv_goto (tgt := 3) hx hb de_M_table_27 (by decide) ?_
          exact ih (i + 1) (by omega) (by rw [← hq, y_abv, if_neg c_57]) H locs ls hP hD hS (lv_sub hl [1, 2, 3, 0] rfl)
  exact loop_3 (t.2.2.2 3) 0 (by omega) rfl _ _ ls hP hD hS (lv_sub hl [1, 2, 3, 0] rfl)
