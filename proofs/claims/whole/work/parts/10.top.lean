set_option maxHeartbeats 4000000 in
set_option maxRecDepth 100000 in
theorem mt_S_leastBroken (l : Launch) (dC : Nat → ClassId) (dI : Nat → Nat → Nat) (ad : Nat → Nat) (T : Nat → ClassId) (t : St)  (hI : Iv t) (sz : Nat) : Met l yn_S_leastBroken (.code yn_S_leastBroken cd_S_leastBroken 2 (some .int) :: UW) ({ frames := 4, cells := 0, slots := 0, locals := 102 } : Room) (va_Pc [.ref (ad 0)] (Pw (dC, dI) CLS (TY T) (wS ad T t) sz)) (va_Qi (fun (r : Int32) (_ : Unit) => r = nI (x_lbn t)) (Bw (dC, dI) CLS (TY T) (fun _ : Unit => (wS ad T (x_lbt t))) (va_A (wS ad T t) sz)) (va_A (wS ad T t) sz)) 0 0 (va_A (wS ad T t) sz) := by
  refine Met.ofW (cc := cd_S_leastBroken) (maxL := 2) (ret := (some .int)) (by decide) rfl ?_
  intro p e s m args below meth c s₁ B hml hv
  obtain ⟨rfl, hsz, hP, hK, hD0, hN⟩ := hv
  have hx := B.exec
  have hb := B.bytes
  have hr := B.returns
  have hts : ∀ w ∈ UW, w.before _ s = true := fun w h => atoms_spec (ws := .code yn_S_leastBroken cd_S_leastBroken 2 (some .int) :: UW) B.pre w (List.mem_cons_of_mem _ h)
  have hown : s.vm.findClass "StabilitySums" = some m.cls := findClass_of_methodNamed B.named
  have hlocks := B.notSynchronized
  subst hsz
  have hD := hD0.self (sz := s.heap.size)
  generalize hAe : va_A (wS ad T t) s.heap.size = A at hD ⊢
  have hA : ∀ q : Nat, s.heap.size ≤ q → A q := fun q h => by rw [← hAe]; exact Or.inr h
  have hS : va_S A s.heap s.heap [] := va_S.rf
  have hl := lv_entry ([.ref (ad 0)]) (n := 2) (Nat.le_of_ble_eq_true rfl)
  rw [lg_entry_eq]
  generalize (lg_sl ([.ref (ad 0)]) ++ List.replicate (2 - (lg_sl ([.ref (ad 0)])).length) Slot.unset).toArray = ls at hl ⊢
  have hl : lv_has ls 2 [(0, .ref (ad 0))] := hl
  generalize hQ : MQ below _ _ s 0 0 A = Q
  obtain ⟨hI0, hI1, hI2, hI3, hI4, hI5⟩ := hI
  refine lv_iconst (v := 1) hx hb de_S_leastBroken_0 (by decide) ?_
  refine lv_istore_n (lv' := [(1, .int 1), (0, .ref (ad 0))]) hx hb de_S_leastBroken_1 rfl hl (by decide) rfl (fun ls hl => ?_)
  have loop_2 : ∀ (n : Nat) (i : Nat) (t1 : St), (i + n = t.2.2.2 3 + 1) → (1 ≤ i) → (N6p t1 t) → (x_lb n i t1 = x_lb (t.2.2.2 3) 1 t) → ∀ (H : Heap) (locs : List Loc) (ls : Array Slot), va_P (dC, dI) CLS (wS ad T t1) H → va_D A (wS ad T t1) → va_S A s.heap H locs → lv_has ls 2 [(0, .ref (ad 0)), (1, .int (nI i))] → W p l e (headSpec (.code yn_S_leastBroken cd_S_leastBroken 2 (some .int) :: UW) ({ frames := 4, cells := 0, slots := 0, locals := 102 } : Room)).room s m ([.ref (ad 0)] : List Value).toArray below meth c H locs 0 0 Q (F0 m 2 ls []) := by
    intro n
    induction n with
    | zero =>
      intro i t1 hi hi1 hk hq H locs ls hP hD hS hl
      obtain ⟨_, _, _, _, _, _⟩ := hk
      refine lv_iload_n hx hb de_S_leastBroken_2 rfl (lv_at hl 1 rfl) ?_
      refine lv_aload_n hx hb de_S_leastBroken_3 rfl (lv_at hl 0 rfl) ?_
      refine va_get (D := (dC, dI)) (ci := 0) (v := .ref (ad 4)) (C := "StabilitySums") (T := TB_S) (N := 10) hx hb hts ui_S hown hK hP 0 rfl rfl 3 (by decide) (hts _ uw_259) (fun _ h9 => h9) rfl de_S_leastBroken_4 ?_
      refine va_get (D := (dC, dI)) (ci := 4) (v := .int (nI (t1.2.2.2 3))) (C := "StabilitySums$Limits") (T := TB_L) (N := 4) hx hb hts ui_L hown hK hP 4 rfl rfl 3 (by decide) (hts _ uw_156) (fun _ h9 => h9) rfl de_S_leastBroken_7 ?_
      refine lv_icmp_gt (tgt := 29) hx hb de_S_leastBroken_10 (by decide) (fun c_1 => ?_) (fun c_1 => ?_)
      · skip
        have c_1 : (t1.2.2.2 3) < i := (nI_ltI (a := (t1.2.2.2 3)) (b := i) (by omega) (by omega)).mp c_1
        refine lv_iconst (v := 0) hx hb de_S_leastBroken_29 (by decide) ?_
        have hfin : t1 = x_lbt t := by
          show _ = (x_lb (t.2.2.2 3) 1 t).2
          rw [← hq]
          first | rfl | (rw [x_lb, if_pos c_1]; assumption)
        rw [hfin] at hP hD
        subst hQ
        have hpost : 0 = nI (x_lbn t) := by
          show _ = nI (x_lb (t.2.2.2 3) 1 t).1
          rw [← hq]
          first | rfl | (rw [x_lb, if_pos c_1])
        exact W.iret (v := 0) hx hb hr (fun t9 ht hW => ⟨⟨0, (), rfl, hpost, by rw [ht]; exact hP, va_K.moved hW.alike hK, hD⟩, hS.F ht⟩) hS.2.2 de_S_leastBroken_30
      · skip
        have c_1 : ¬ ((t1.2.2.2 3) < i) := fun z => c_1 ((nI_ltI (a := (t1.2.2.2 3)) (b := i) (by omega) (by omega)).mpr z)
        exfalso; omega
    | succ n ih =>
      intro i t1 hi hi1 hk hq H locs ls hP hD hS hl
      obtain ⟨_, _, _, _, _, _⟩ := hk
      refine lv_iload_n hx hb de_S_leastBroken_2 rfl (lv_at hl 1 rfl) ?_
      refine lv_aload_n hx hb de_S_leastBroken_3 rfl (lv_at hl 0 rfl) ?_
      refine va_get (D := (dC, dI)) (ci := 0) (v := .ref (ad 4)) (C := "StabilitySums") (T := TB_S) (N := 10) hx hb hts ui_S hown hK hP 0 rfl rfl 3 (by decide) (hts _ uw_259) (fun _ h9 => h9) rfl de_S_leastBroken_4 ?_
      refine va_get (D := (dC, dI)) (ci := 4) (v := .int (nI (t1.2.2.2 3))) (C := "StabilitySums$Limits") (T := TB_L) (N := 4) hx hb hts ui_L hown hK hP 4 rfl rfl 3 (by decide) (hts _ uw_156) (fun _ h9 => h9) rfl de_S_leastBroken_7 ?_
      refine lv_icmp_gt (tgt := 29) hx hb de_S_leastBroken_10 (by decide) (fun c_2 => ?_) (fun c_2 => ?_)
      · skip
        have c_2 : (t1.2.2.2 3) < i := (nI_ltI (a := (t1.2.2.2 3)) (b := i) (by omega) (by omega)).mp c_2
        exfalso; omega
      · skip
        have c_2 : ¬ ((t1.2.2.2 3) < i) := fun z => c_2 ((nI_ltI (a := (t1.2.2.2 3)) (b := i) (by omega) (by omega)).mpr z)
        refine lv_aload_n hx hb de_S_leastBroken_13 rfl (lv_at hl 0 rfl) ?_
        refine lv_iload_n hx hb de_S_leastBroken_14 rfl (lv_at hl 1 rfl) ?_
        refine cl_Vi (As := [.int (nI i)]) (rest := []) ⟨hx, hb, hml, hown, hts⟩ (mt_S_breaks l dC dI ad T t1 i (show Iv t1 from (by refine ⟨?_, ?_, ?_, ?_, ?_, ?_⟩ <;> omega)) (show i ≤ 10 from by omega)) (cwV 1 hts (uw_V uw_345 uw_347 uw_4 uw_27 uw_348) rfl rfl rfl (by decide +kernel) ⟨Nat.le_of_ble_eq_true rfl, Nat.le_of_ble_eq_true rfl⟩) (va_recv hK hP (ci := 0) (q0 := 0) rfl rfl) rfl hl.1 rfl (Nat.le_of_ble_eq_true rfl) de_S_leastBroken_15 ⟨Nat.zero_le _, Nat.zero_le _⟩ hK hN hP hD hS hA (fun r_3 _ H locs hw_3 hP hD hS => ?_)
        have hw_3 : bz r_3 (x_bp i t1) := hw_3
        obtain ⟨t_4, et_4⟩ : ∃ z, z = x_bt i t1 := ⟨_, rfl⟩
        have hP : va_P (dC, dI) CLS (wS ad T t_4) H := by rw [et_4]; exact hP
        have hD : va_D A (wS ad T t_4) := by rw [et_4]; exact hD
        obtain ⟨_, _, _, _, _, _⟩ : N6p t_4 t1 := by rw [et_4]; exact nsix (x_bt_N _ _)
        refine lv_if_eq (tgt := 23) hx hb de_S_leastBroken_18 (by decide) (fun c_5 => ?_) (fun c_5 => ?_)
        · skip
          have c_5 := bz_f hw_3 c_5
          refine lv_iinc (v := (nI (i + 1))) (lv' := [(1, .int (nI (i + 1))), (0, .ref (ad 0))]) hx hb de_S_leastBroken_23 hl (k := 1) rfl (nI_1 i) (by decide) rfl (fun ls hl => ?_)
          refine lv_goto (tgt := 2) hx hb de_S_leastBroken_26 (by decide) ?_
          exact ih (i + 1) t_4 (by omega) (by omega) (by refine ⟨?_, ?_, ?_, ?_, ?_, ?_⟩ <;> omega) (by rw [← hq, x_lb, if_neg c_5, et_4]) H locs ls hP hD hS (lv_sub hl [1, 0] rfl)
        · skip
          have c_5 := bz_t hw_3 c_5
          refine lv_iload_n hx hb de_S_leastBroken_21 rfl (lv_at hl 1 rfl) ?_
          have hfin : t_4 = x_lbt t := by
            show _ = (x_lb (t.2.2.2 3) 1 t).2
            rw [← hq]
            first | rfl | (rw [x_lb, if_pos c_5]; assumption)
          rw [hfin] at hP hD
          subst hQ
          have hpost : (nI i) = nI (x_lbn t) := by
            show _ = nI (x_lb (t.2.2.2 3) 1 t).1
            rw [← hq]
            first | rfl | (rw [x_lb, if_pos c_5])
          exact W.iret (v := (nI i)) hx hb hr (fun t9 ht hW => ⟨⟨(nI i), (), rfl, hpost, by rw [ht]; exact hP, va_K.moved hW.alike hK, hD⟩, hS.F ht⟩) hS.2.2 de_S_leastBroken_22
  exact loop_2 (t.2.2.2 3) 1 t (by omega) (by omega) (nsix rfl) rfl _ _ ls hP hD hS (lv_sub hl [1, 0] rfl)
set_option maxHeartbeats 4000000 in
set_option maxRecDepth 100000 in
theorem mt_S_trySetting (l : Launch) (dC : Nat → ClassId) (dI : Nat → Nat → Nat) (ad : Nat → Nat) (T : Nat → ClassId) (t : St) (cs : Nat) (hI : Iv t) (hc : cs < 625) (sz : Nat) : Met l yn_S_trySetting (.code yn_S_trySetting cd_S_trySetting 4 none :: UW) ({ frames := 3, cells := 0, slots := 0, locals := 71 } : Room) (va_Pc [.ref (ad 0), .int (nI cs)] (Pw (dC, dI) CLS (TY T) (wS ad T t) sz)) (va_Qv (fun _ : Unit => True) (Bw (dC, dI) CLS (TY T) (fun _ : Unit => (wS ad T (x_tw cs t))) (va_A (wS ad T t) sz)) (va_A (wS ad T t) sz)) 0 0 (va_A (wS ad T t) sz) := by
  refine Met.ofW (cc := cd_S_trySetting) (maxL := 4) (ret := none) (by decide) rfl ?_
  intro p e s m args below meth c s₁ B hml hv
  obtain ⟨rfl, hsz, hP, hK, hD0, hN⟩ := hv
  have hx := B.exec
  have hb := B.bytes
  have hr := B.returns
  have hts : ∀ w ∈ UW, w.before _ s = true := fun w h => atoms_spec (ws := .code yn_S_trySetting cd_S_trySetting 4 none :: UW) B.pre w (List.mem_cons_of_mem _ h)
  have hown : s.vm.findClass "StabilitySums" = some m.cls := findClass_of_methodNamed B.named
  have hlocks := B.notSynchronized
  subst hsz
  have hD := hD0.self (sz := s.heap.size)
  generalize hAe : va_A (wS ad T t) s.heap.size = A at hD ⊢
  have hA : ∀ q : Nat, s.heap.size ≤ q → A q := fun q h => by rw [← hAe]; exact Or.inr h
  have hS : va_S A s.heap s.heap [] := va_S.rf
  have hl := lv_entry ([.ref (ad 0), .int (nI cs)]) (n := 4) (Nat.le_of_ble_eq_true rfl)
  rw [lg_entry_eq]
  generalize (lg_sl ([.ref (ad 0), .int (nI cs)]) ++ List.replicate (4 - (lg_sl ([.ref (ad 0), .int (nI cs)])).length) Slot.unset).toArray = ls at hl ⊢
  have hl : lv_has ls 4 [(0, .ref (ad 0)), (1, .int (nI cs))] := hl
  generalize hQ : MQ below _ _ s 0 0 A = Q
  obtain ⟨hI0, hI1, hI2, hI3, hI4, hI5⟩ := hI
  refine lv_iload_n hx hb de_S_trySetting_0 rfl (lv_at hl 1 rfl) ?_
  refine lv_istore_n (lv' := [(2, .int (nI cs)), (0, .ref (ad 0)), (1, .int (nI cs))]) hx hb de_S_trySetting_1 rfl hl (by decide) rfl (fun ls hl => ?_)
  refine lv_aload_n hx hb de_S_trySetting_2 rfl (lv_at hl 1 rfl) ?_
  refine va_get (D := (dC, dI)) (ci := 0) (v := .ref (ad 2)) (C := "StabilitySums") (T := TB_S) (N := 10) hx hb hts ui_S hown hK hP 0 rfl rfl 1 (by decide) (hts _ uw_257) (fun _ h9 => h9) rfl de_S_trySetting_3 ?_
  refine va_get (D := (dC, dI)) (ci := 2) (v := .int (nI (t.2.2.2 1))) (C := "StabilitySums$Tanks") (T := TB_T) (N := 9) hx hb hts ui_T hown hK hP 2 rfl rfl 8 (by decide) (hts _ uw_103) (fun _ h9 => h9) rfl de_S_trySetting_6 ?_
  refine lv_iconst (v := 1) hx hb de_S_trySetting_9 (by decide) ?_
  refine lv_isub hx hb de_S_trySetting_10 ?_
  refine lv_istore_n (lv' := [(3, .int ((nI (t.2.2.2 1)) - 1)), (2, .int (nI cs)), (0, .ref (ad 0)), (1, .int (nI cs))]) hx hb de_S_trySetting_11 rfl hl (by decide) rfl (fun ls hl => ?_)
  have loop_12 : ∀ (n : Nat) (r : Nat) (t1 : St), (n ≤ t.2.2.2 1) → (r < 625) → (N6p t1 t) → (x_set n r t1 = x_tw cs t) → ∀ (H : Heap) (locs : List Loc) (ls : Array Slot), va_P (dC, dI) CLS (wS ad T t1) H → va_D A (wS ad T t1) → va_S A s.heap H locs → lv_has ls 4 [(0, .ref (ad 0)), (1, .int (nI cs)), (2, .int (nI r)), (3, .int (nI n - 1))] → W p l e (headSpec (.code yn_S_trySetting cd_S_trySetting 4 none :: UW) ({ frames := 3, cells := 0, slots := 0, locals := 71 } : Room)).room s m ([.ref (ad 0), .int (nI cs)] : List Value).toArray below meth c H locs 0 0 Q (F0 m 12 ls []) := by
    intro n
    induction n with
    | zero =>
      intro r t1 hn hr9 hk hq H locs ls hP hD hS hl
      obtain ⟨_, _, _, _, _, _⟩ := hk
      refine lv_iload_n hx hb de_S_trySetting_12 rfl (lv_at hl 3 rfl) ?_
      refine lv_if_lt (tgt := 49) hx hb de_S_trySetting_13 (by decide) (fun c_1 => ?_) (fun c_1 => ?_)
      · skip
        have hfin : t1 = x_tw cs t := by
          exact hq
        rw [hfin] at hP hD
        subst hQ
        exact W.vret hx hb hr (fun t9 ht hW => ⟨⟨(), rfl, trivial, by rw [ht]; exact hP, va_K.moved hW.alike hK, hD⟩, hS.F ht⟩) hS.2.2 de_S_trySetting_49
      · skip
        first | exact absurd (by decide) c_1 | exact absurd c_1 (nI_pos (by omega))
    | succ n ih =>
      intro r t1 hn hr9 hk hq H locs ls hP hD hS hl
      obtain ⟨_, _, _, _, _, _⟩ := hk
      have hl : lv_has ls 4 [(0, .ref (ad 0)), (1, .int (nI cs)), (2, .int (nI r)), (3, .int (nI n))] := by rw [nI_pred] at hl; exact hl
      refine lv_iload_n hx hb de_S_trySetting_12 rfl (lv_at hl 3 rfl) ?_
      refine lv_if_lt (tgt := 49) hx hb de_S_trySetting_13 (by decide) (fun c_2 => ?_) (fun c_2 => ?_)
      · skip
        first | exact absurd (by decide) c_2 | exact absurd c_2 (nI_pos (by omega))
      · skip
        refine lv_aload_n hx hb de_S_trySetting_16 rfl (lv_at hl 0 rfl) ?_
        refine lv_iload_n hx hb de_S_trySetting_17 rfl (lv_at hl 3 rfl) ?_
        refine lv_aload_n hx hb de_S_trySetting_18 rfl (lv_at hl 0 rfl) ?_
        refine va_get (D := (dC, dI)) (ci := 0) (v := .ref (ad 2)) (C := "StabilitySums") (T := TB_S) (N := 10) hx hb hts ui_S hown hK hP 0 rfl rfl 1 (by decide) (hts _ uw_257) (fun _ h9 => h9) rfl de_S_trySetting_19 ?_
        refine va_get (D := (dC, dI)) (ci := 2) (v := .ref (ad 13)) (C := "StabilitySums$Tanks") (T := TB_T) (N := 9) hx hb hts ui_T hown hK hP 2 rfl rfl 0 (by decide) (hts _ uw_88) (fun _ h9 => h9) rfl de_S_trySetting_22 ?_
        refine lv_iload_n hx hb de_S_trySetting_25 rfl (lv_at hl 3 rfl) ?_
        refine rw_lald (f := t1.1 4) (j := n) hx hb hK hP 13 0 rfl rfl (by omega) (by decide) de_S_trySetting_26 ?_
        refine lv_ldc2 (v := 4) hx hb hown (hts _ uw_407) de_S_trySetting_27 ?_
        refine lv_ldiv hx hb de_S_trySetting_30 (by decide) ?_
        refine lv_topl (fun v_3 ev_3 => ?_)
        have ev_3 : v_3 = (t1.1 4 n) / 4 := ev_3
        refine lv_iload_n hx hb de_S_trySetting_31 rfl (lv_at hl 2 rfl) ?_
        refine lv_iconst (v := 5) hx hb de_S_trySetting_32 (by decide) ?_
        refine lv_irem hx hb de_S_trySetting_33 (by decide) ?_
        refine lv_topi (fun v_4 ev_4 => ?_)
        have ev_4 : v_4 = (nI (r % 5)) := ev_4.trans (pk_rem (a := r) (d := 5) (by omega) (by omega) (by omega))
        subst ev_4
        refine lv_i2l (v := ((nI (r % 5)).toInt64)) hx hb de_S_trySetting_34 rfl ?_
        refine lv_lmul hx hb de_S_trySetting_35 ?_
        refine lv_topl (fun v_5 ev_5 => ?_)
        have ev_5 : v_5 = v_3 * ((nI (r % 5)).toInt64) := ev_5
        refine cl_Vv (As := [.int (nI n), .long v_5]) (rest := []) ⟨hx, hb, hml, hown, hts⟩ (mt_S_tryFilling l dC dI ad T t1 n v_5 (show Iv t1 from (by refine ⟨?_, ?_, ?_, ?_, ?_, ?_⟩ <;> omega)) (show n < 4 from by omega)) (cwV 2 hts (uw_V uw_329 uw_331 uw_2 uw_27 uw_332) rfl rfl rfl (by decide +kernel) ⟨Nat.le_of_ble_eq_true rfl, Nat.le_of_ble_eq_true rfl⟩) (va_recv hK hP (ci := 0) (q0 := 0) rfl rfl) rfl hl.1 rfl (Nat.le_of_ble_eq_true rfl) de_S_trySetting_36 ⟨Nat.zero_le _, Nat.zero_le _⟩ hK hN hP hD hS hA (fun _ H locs hw_6 hP hD hS => ?_)
        obtain ⟨t_7, et_7⟩ : ∃ z, z = x_fillT n v_5 t1 := ⟨_, rfl⟩
        have hP : va_P (dC, dI) CLS (wS ad T t_7) H := by rw [et_7]; exact hP
        have hD : va_D A (wS ad T t_7) := by rw [et_7]; exact hD
        obtain ⟨_, _, _, _, _, _⟩ : N6p t_7 t1 := by rw [et_7]; exact nsix (x_fillT_N _ _ _)
        refine lv_iload_n hx hb de_S_trySetting_39 rfl (lv_at hl 2 rfl) ?_
        refine lv_iconst (v := 5) hx hb de_S_trySetting_40 (by decide) ?_
        refine lv_idiv hx hb de_S_trySetting_41 (by decide) ?_
        refine lv_topi (fun v_8 ev_8 => ?_)
        have ev_8 : v_8 = (nI (r / 5)) := ev_8.trans (pk_div (a := r) (d := 5) (by omega) (by omega) (by omega))
        subst ev_8
        refine lv_istore_n (lv' := [(2, .int (nI (r / 5))), (0, .ref (ad 0)), (1, .int (nI cs)), (3, .int (nI n))]) hx hb de_S_trySetting_42 rfl hl (by decide) rfl (fun ls hl => ?_)
        refine lv_iinc (v := (nI n - 1)) (lv' := [(3, .int (nI n - 1)), (2, .int (nI (r / 5))), (0, .ref (ad 0)), (1, .int (nI cs))]) hx hb de_S_trySetting_43 hl (k := 3) rfl (im1 _) (by decide) rfl (fun ls hl => ?_)
        refine lv_goto (tgt := 12) hx hb de_S_trySetting_46 (by decide) ?_
        exact ih (r / 5) t_7 (by omega) (by omega) (by refine ⟨?_, ?_, ?_, ?_, ?_, ?_⟩ <;> omega) (by rw [← hq, x_set, et_7]; subst_vars; rfl) H locs ls hP hD hS (lv_sub hl [2, 3, 1, 0] rfl)
  exact loop_12 (t.2.2.2 1) cs t (by omega) (by omega) (nsix rfl) rfl _ _ ls hP hD hS (lv_sub hl [2, 3, 1, 0] rfl)
set_option maxHeartbeats 4000000 in
set_option maxRecDepth 100000 in
theorem mt_S_findPumping (l : Launch) (dC : Nat → ClassId) (dI : Nat → Nat → Nat) (ad : Nat → Nat) (T : Nat → ClassId) (t : St)  (hI : Iv t) (sz : Nat) : Met l yn_S_findPumping (.code yn_S_findPumping cd_S_findPumping 7 (some .long) :: UW) ({ frames := 5, cells := 0, slots := 0, locals := 123 } : Room) (va_Pc [.ref (ad 0)] (Pw (dC, dI) CLS (TY T) (wS ad T t) sz)) (va_Ql (fun (r : Int64) (_ : Unit) => r = (x_pump t).1) (Bw (dC, dI) CLS (TY T) (fun _ : Unit => (wS ad T ((x_pump t).2))) (va_A (wS ad T t) sz)) (va_A (wS ad T t) sz)) 0 0 (va_A (wS ad T t) sz) := by
  refine Met.ofW (cc := cd_S_findPumping) (maxL := 7) (ret := (some .long)) (by decide) rfl ?_
  intro p e s m args below meth c s₁ B hml hv
  obtain ⟨rfl, hsz, hP, hK, hD0, hN⟩ := hv
  have hx := B.exec
  have hb := B.bytes
  have hr := B.returns
  have hts : ∀ w ∈ UW, w.before _ s = true := fun w h => atoms_spec (ws := .code yn_S_findPumping cd_S_findPumping 7 (some .long) :: UW) B.pre w (List.mem_cons_of_mem _ h)
  have hown : s.vm.findClass "StabilitySums" = some m.cls := findClass_of_methodNamed B.named
  have hlocks := B.notSynchronized
  subst hsz
  have hD := hD0.self (sz := s.heap.size)
  generalize hAe : va_A (wS ad T t) s.heap.size = A at hD ⊢
  have hA : ∀ q : Nat, s.heap.size ≤ q → A q := fun q h => by rw [← hAe]; exact Or.inr h
  have hS : va_S A s.heap s.heap [] := va_S.rf
  have hl := lv_entry ([.ref (ad 0)]) (n := 7) (Nat.le_of_ble_eq_true rfl)
  rw [lg_entry_eq]
  generalize (lg_sl ([.ref (ad 0)]) ++ List.replicate (7 - (lg_sl ([.ref (ad 0)])).length) Slot.unset).toArray = ls at hl ⊢
  have hl : lv_has ls 7 [(0, .ref (ad 0))] := hl
  generalize hQ : MQ below _ _ s 0 0 A = Q
  obtain ⟨hI0, hI1, hI2, hI3, hI4, hI5⟩ := hI
  refine lv_iconst (v := 1) hx hb de_S_findPumping_0 (by decide) ?_
  refine lv_istore_n (lv' := [(1, .int 1), (0, .ref (ad 0))]) hx hb de_S_findPumping_1 rfl hl (by decide) rfl (fun ls hl => ?_)
  refine lv_iconst (v := 0) hx hb de_S_findPumping_2 (by decide) ?_
  refine lv_istore_n (lv' := [(2, .int 0), (1, .int 1), (0, .ref (ad 0))]) hx hb de_S_findPumping_3 rfl hl (by decide) rfl (fun ls hl => ?_)
  have loop_4 : ∀ (n : Nat) (i : Nat) (q : Nat), (i + n = t.2.2.2 1) → (q = 5 ^ i) → ∀ (H : Heap) (locs : List Loc) (ls : Array Slot), va_P (dC, dI) CLS (wS ad T t) H → va_D A (wS ad T t) → va_S A s.heap H locs → lv_has ls 7 [(0, .ref (ad 0)), (1, .int (nI q)), (2, .int (nI i))] → W p l e (headSpec (.code yn_S_findPumping cd_S_findPumping 7 (some .long) :: UW) ({ frames := 5, cells := 0, slots := 0, locals := 123 } : Room)).room s m ([.ref (ad 0)] : List Value).toArray below meth c H locs 0 0 Q (F0 m 4 ls []) := by
    intro n
    induction n with
    | zero =>
      intro i q hi hq H locs ls hP hD hS hl
      refine lv_iload_n hx hb de_S_findPumping_4 rfl (lv_at hl 2 rfl) ?_
      refine lv_aload_n hx hb de_S_findPumping_5 rfl (lv_at hl 0 rfl) ?_
      refine va_get (D := (dC, dI)) (ci := 0) (v := .ref (ad 2)) (C := "StabilitySums") (T := TB_S) (N := 10) hx hb hts ui_S hown hK hP 0 rfl rfl 1 (by decide) (hts _ uw_257) (fun _ h9 => h9) rfl de_S_findPumping_6 ?_
      refine va_get (D := (dC, dI)) (ci := 2) (v := .int (nI (t.2.2.2 1))) (C := "StabilitySums$Tanks") (T := TB_T) (N := 9) hx hb hts ui_T hown hK hP 2 rfl rfl 8 (by decide) (hts _ uw_103) (fun _ h9 => h9) rfl de_S_findPumping_9 ?_
      refine lv_icmp_ge (tgt := 25) hx hb de_S_findPumping_12 (by decide) (fun c_1 => ?_) (fun c_1 => ?_)
      · skip
        have c_1 : (t.2.2.2 1) ≤ i := (nI_leI (a := (t.2.2.2 1)) (b := i) (by omega) (by omega)).mp c_1
        have hqe : q = 5 ^ t.2.2.2 1 := by rw [hq, show i = t.2.2.2 1 by omega]
        have hq6 : q ≤ 625 := by rw [hqe]; exact p5le (by omega)
        refine lv_aload_n hx hb de_S_findPumping_25 rfl (lv_at hl 0 rfl) ?_
        refine cl_Vv (As := []) (rest := []) ⟨hx, hb, hml, hown, hts⟩ (mt_S_gather l dC dI ad T t (show Iv t from (by refine ⟨?_, ?_, ?_, ?_, ?_, ?_⟩ <;> omega))) (cwV 0 hts (uw_V uw_302 uw_304 uw_0 uw_27 uw_305) rfl rfl rfl (by decide +kernel) ⟨Nat.le_of_ble_eq_true rfl, Nat.le_of_ble_eq_true rfl⟩) (va_recv hK hP (ci := 0) (q0 := 0) rfl rfl) rfl hl.1 rfl (Nat.le_of_ble_eq_true rfl) de_S_findPumping_26 ⟨Nat.zero_le _, Nat.zero_le _⟩ hK hN hP hD hS hA (fun _ H locs hw_2 hP hD hS => ?_)
        obtain ⟨t_3, et_3⟩ : ∃ z, z = x_gath t := ⟨_, rfl⟩
        have hP : va_P (dC, dI) CLS (wS ad T t_3) H := by rw [et_3]; exact hP
        have hD : va_D A (wS ad T t_3) := by rw [et_3]; exact hD
        obtain ⟨_, _, _, _, _, _⟩ : t_3.2.2.2 0 = t.2.2.2 0 ∧ t_3.2.2.2 1 = t.2.2.2 1 ∧ t_3.2.2.2 2 = t.2.2.2 2 ∧ t_3.2.2.2 3 = t.2.2.2 3 ∧ t_3.2.2.2 4 = t.2.2.2 4 ∧ t_3.2.2.2 5 = t.2.2.2 3 := by rw [et_3]; exact x_gath_6 t
        refine lv_ldc2 (v := (-1)) hx hb hown (hts _ uw_402) de_S_findPumping_29 ?_
        refine lv_lstore_n (lv' := [(2, .long (-1)), (0, .ref (ad 0)), (1, .int (nI q))]) hx hb de_S_findPumping_32 rfl hl (by decide) rfl (fun ls hl => ?_)
        refine lv_iconst (v := 0) hx hb de_S_findPumping_33 (by decide) ?_
        refine lv_istore (lv' := [(4, .int 0), (2, .long (-1)), (0, .ref (ad 0)), (1, .int (nI q))]) hx hb de_S_findPumping_34 hl (by decide) rfl (fun ls hl => ?_)
        have loop_36 : ∀ (n : Nat) (k : Nat) (b : Int64) (t2 : St), (k + n = q) → (N6p t2 t_3) → (x_fp n k b t2 = x_pump t) → ∀ (H : Heap) (locs : List Loc) (ls : Array Slot), va_P (dC, dI) CLS (wS ad T t2) H → va_D A (wS ad T t2) → va_S A s.heap H locs → lv_has ls 7 [(0, .ref (ad 0)), (1, .int (nI q)), (2, .long b), (4, .int (nI k))] → W p l e (headSpec (.code yn_S_findPumping cd_S_findPumping 7 (some .long) :: UW) ({ frames := 5, cells := 0, slots := 0, locals := 123 } : Room)).room s m ([.ref (ad 0)] : List Value).toArray below meth c H locs 0 0 Q (F0 m 36 ls []) := by
          intro n
          induction n with
          | zero =>
            intro k b t2 hi2 hk2 hq2 H locs ls hP hD hS hl
            obtain ⟨_, _, _, _, _, _⟩ := hk2
            refine lv_iload hx hb de_S_findPumping_36 (lv_at hl 3 rfl) ?_
            refine lv_iload_n hx hb de_S_findPumping_38 rfl (lv_at hl 1 rfl) ?_
            refine lv_icmp_ge (tgt := 95) hx hb de_S_findPumping_39 (by decide) (fun c_4 => ?_) (fun c_4 => ?_)
            · skip
              have c_4 : q ≤ k := (nI_leI (a := q) (b := k) (by omega) (by omega)).mp c_4
              refine lv_lload_n hx hb de_S_findPumping_95 rfl (lv_at hl 2 rfl) ?_
              have hfin : t2 = (x_pump t).2 := by
                rw [← hq2]; rfl
              rw [hfin] at hP hD
              subst hQ
              have hpost : b = (x_pump t).1 := by
                rw [← hq2]; rfl
              exact W.lret (v := b) hx hb hr (fun t9 ht hW => ⟨⟨b, (), rfl, hpost, by rw [ht]; exact hP, va_K.moved hW.alike hK, hD⟩, hS.F ht⟩) hS.2.2 de_S_findPumping_96
            · skip
              have c_4 : ¬ (q ≤ k) := fun z => c_4 ((nI_leI (a := q) (b := k) (by omega) (by omega)).mpr z)
              exfalso; omega
          | succ n ih =>
            intro k b t2 hi2 hk2 hq2 H locs ls hP hD hS hl
            obtain ⟨_, _, _, _, _, _⟩ := hk2
            refine lv_iload hx hb de_S_findPumping_36 (lv_at hl 3 rfl) ?_
            refine lv_iload_n hx hb de_S_findPumping_38 rfl (lv_at hl 1 rfl) ?_
            refine lv_icmp_ge (tgt := 95) hx hb de_S_findPumping_39 (by decide) (fun c_5 => ?_) (fun c_5 => ?_)
            · skip
              have c_5 : q ≤ k := (nI_leI (a := q) (b := k) (by omega) (by omega)).mp c_5
              exfalso; omega
            · skip
              have c_5 : ¬ (q ≤ k) := fun z => c_5 ((nI_leI (a := q) (b := k) (by omega) (by omega)).mpr z)
              refine lv_aload_n hx hb de_S_findPumping_42 rfl (lv_at hl 0 rfl) ?_
              refine lv_iload hx hb de_S_findPumping_43 (lv_at hl 3 rfl) ?_
              refine cl_Vv (As := [.int (nI k)]) (rest := []) ⟨hx, hb, hml, hown, hts⟩ (mt_S_trySetting l dC dI ad T t2 k (show Iv t2 from (by refine ⟨?_, ?_, ?_, ?_, ?_, ?_⟩ <;> omega)) (show k < 625 from by omega)) (cwV 1 hts (uw_V uw_403 uw_405 uw_10 uw_27 uw_406) rfl rfl rfl (by decide +kernel) ⟨Nat.le_of_ble_eq_true rfl, Nat.le_of_ble_eq_true rfl⟩) (va_recv hK hP (ci := 0) (q0 := 0) rfl rfl) rfl hl.1 rfl (Nat.le_of_ble_eq_true rfl) de_S_findPumping_45 ⟨Nat.zero_le _, Nat.zero_le _⟩ hK hN hP hD hS hA (fun _ H locs hw_6 hP hD hS => ?_)
              obtain ⟨t_7, et_7⟩ : ∃ z, z = x_tw k t2 := ⟨_, rfl⟩
              have hP : va_P (dC, dI) CLS (wS ad T t_7) H := by rw [et_7]; exact hP
              have hD : va_D A (wS ad T t_7) := by rw [et_7]; exact hD
              obtain ⟨_, _, _, _, _, _⟩ : N6p t_7 t2 := by rw [et_7]; exact nsix (x_tw_N _ _)
              refine lv_aload_n hx hb de_S_findPumping_48 rfl (lv_at hl 0 rfl) ?_
              refine va_get (D := (dC, dI)) (ci := 0) (v := .ref (ad 2)) (C := "StabilitySums") (T := TB_S) (N := 10) hx hb hts ui_S hown hK hP 0 rfl rfl 1 (by decide) (hts _ uw_257) (fun _ h9 => h9) rfl de_S_findPumping_49 ?_
              refine cl_Vl (As := []) (rest := []) ⟨hx, hb, hml, hown, hts⟩ (mt_T_workOfTried l dC dI ad T t_7 (show t_7.2.2.2 1 ≤ 4 from by omega)) (cwV 0 hts (uw_V uw_408 uw_409 uw_410 uw_29 uw_411) rfl rfl rfl (by decide +kernel) ⟨Nat.le_of_ble_eq_true rfl, Nat.le_of_ble_eq_true rfl⟩) (va_recv hK hP (ci := 2) (q0 := 2) rfl rfl) rfl hl.1 rfl (Nat.le_of_ble_eq_true rfl) de_S_findPumping_52 ⟨Nat.zero_le _, Nat.zero_le _⟩ hK hN hP hD hS hA (fun r_8 _ H locs hw_8 hP hD hS => ?_)
              have hw_8 : r_8 = x_wk t_7 (t_7.2.2.2 1) 0 0 := hw_8
              refine lv_lstore (lv' := [(5, .long r_8), (0, .ref (ad 0)), (1, .int (nI q)), (2, .long b), (4, .int (nI k))]) hx hb de_S_findPumping_55 hl (by decide) rfl (fun ls hl => ?_)
              refine lv_lload_n hx hb de_S_findPumping_57 rfl (lv_at hl 3 rfl) ?_
              refine lv_ldc2 (v := (-1)) hx hb hown (hts _ uw_402) de_S_findPumping_58 ?_
              refine rw_eq (tgt := 72) hx hb de_S_findPumping_61 de_S_findPumping_62 (by decide) (fun c_9 => ?_) (fun c_9 => ?_)
              · skip
                refine lv_aload_n hx hb de_S_findPumping_72 rfl (lv_at hl 1 rfl) ?_
                refine cl_Vi (As := []) (rest := []) ⟨hx, hb, hml, hown, hts⟩ (mt_S_leastBroken l dC dI ad T t_7 (show Iv t_7 from (by refine ⟨?_, ?_, ?_, ?_, ?_, ?_⟩ <;> omega))) (cwV 0 hts (uw_V uw_341 uw_343 uw_3 uw_27 uw_344) rfl rfl rfl (by decide +kernel) ⟨Nat.le_of_ble_eq_true rfl, Nat.le_of_ble_eq_true rfl⟩) (va_recv hK hP (ci := 0) (q0 := 0) rfl rfl) rfl hl.1 rfl (Nat.le_of_ble_eq_true rfl) de_S_findPumping_73 ⟨Nat.zero_le _, Nat.zero_le _⟩ hK hN hP hD hS hA (fun r_10 _ H locs hw_10 hP hD hS => ?_)
                have hw_10 : r_10 = nI (x_lbn t_7) := hw_10
                subst hw_10
                have : x_lbn t_7 ≤ 1 + t_7.2.2.2 3 := x_lb_le _ _ _
                obtain ⟨t_11, et_11⟩ : ∃ z, z = x_lbt t_7 := ⟨_, rfl⟩
                have hP : va_P (dC, dI) CLS (wS ad T t_11) H := by rw [et_11]; exact hP
                have hD : va_D A (wS ad T t_11) := by rw [et_11]; exact hD
                obtain ⟨_, _, _, _, _, _⟩ : N6p t_11 t_7 := by rw [et_11]; exact nsix (x_lb_N _ _ _)
                refine lv_if_ne (tgt := 89) hx hb de_S_findPumping_76 (by decide) (fun c_12 => ?_) (fun c_12 => ?_)
                · skip
                  have c_12 : ¬ (x_lbn t_7) = 0 := fun z => c_12 ((nz0 (by omega)).mpr z)
                  refine lv_iinc (v := (nI (k + 1))) (lv' := [(4, .int (nI (k + 1))), (5, .long r_8), (0, .ref (ad 0)), (1, .int (nI q)), (2, .long b)]) hx hb de_S_findPumping_89 hl (k := 4) rfl (nI_1 k) (by decide) rfl (fun ls hl => ?_)
                  refine lv_goto (tgt := 36) hx hb de_S_findPumping_92 (by decide) ?_
                  exact ih (k + 1) b t_11 (by omega) (by refine ⟨?_, ?_, ?_, ?_, ?_, ?_⟩ <;> omega) (by rw [← hq2, x_fp, ← et_7, ← hw_8]; first | (rw [if_neg (fun z => z.elim c_9 (fun y => absurd c_12 (Int64.not_le.mpr y)))]; done) | (rw [if_neg (fun z => z.elim c_9 (fun y => absurd c_12 (Int64.not_le.mpr y)))]; subst_vars; rfl) | (rw [if_pos (Or.inl c_9), if_pos c_12]; done) | (rw [if_pos (Or.inl c_9), if_pos c_12]; subst_vars; rfl) | (rw [if_pos (Or.inl c_9), if_neg c_12]; done) | (rw [if_pos (Or.inl c_9), if_neg c_12]; subst_vars; rfl) | (rw [if_pos (Or.inr (Int64.not_le.mp c_12)), if_pos nope]; done) | (rw [if_pos (Or.inr (Int64.not_le.mp c_12)), if_pos nope]; subst_vars; rfl) | (rw [if_pos (Or.inr (Int64.not_le.mp c_12)), if_neg nope]; done) | (rw [if_pos (Or.inr (Int64.not_le.mp c_12)), if_neg nope]; subst_vars; rfl)) H locs ls hP hD hS (lv_sub hl [2, 3, 4, 0] rfl)
                · skip
                  have c_12 : (x_lbn t_7) = 0 := (nz0 (by omega)).mp c_12
                  refine lv_lload hx hb de_S_findPumping_79 (lv_at hl 0 rfl) ?_
                  refine lv_lstore_n (lv' := [(2, .long r_8), (5, .long r_8), (0, .ref (ad 0)), (1, .int (nI q)), (4, .int (nI k))]) hx hb de_S_findPumping_81 rfl hl (by decide) rfl (fun ls hl => ?_)
                  refine lv_aload_n hx hb de_S_findPumping_82 rfl (lv_at hl 2 rfl) ?_
                  refine va_get (D := (dC, dI)) (ci := 0) (v := .ref (ad 2)) (C := "StabilitySums") (T := TB_S) (N := 10) hx hb hts ui_S hown hK hP 0 rfl rfl 1 (by decide) (hts _ uw_257) (fun _ h9 => h9) rfl de_S_findPumping_83 ?_
                  refine cl_Vv (As := []) (rest := []) ⟨hx, hb, hml, hown, hts⟩ (mt_T_keepTried l dC dI ad T t_11 (show t_11.2.2.2 1 ≤ 4 from by omega)) (cwV 0 hts (uw_V uw_415 uw_416 uw_417 uw_29 uw_418) rfl rfl rfl (by decide +kernel) ⟨Nat.le_of_ble_eq_true rfl, Nat.le_of_ble_eq_true rfl⟩) (va_recv hK hP (ci := 2) (q0 := 2) rfl rfl) rfl hl.1 rfl (Nat.le_of_ble_eq_true rfl) de_S_findPumping_86 ⟨Nat.zero_le _, Nat.zero_le _⟩ hK hN hP hD hS hA (fun _ H locs hw_13 hP hD hS => ?_)
                  obtain ⟨t_14, et_14⟩ : ∃ z, z = x_kt (t_11.2.2.2 1) 0 t_11 := ⟨_, rfl⟩
                  have hP : va_P (dC, dI) CLS (wS ad T t_14) H := by rw [et_14]; exact hP
                  have hD : va_D A (wS ad T t_14) := by rw [et_14]; exact hD
                  obtain ⟨_, _, _, _, _, _⟩ : N6p t_14 t_11 := by rw [et_14]; exact nsix (x_kt_N _ _ _)
                  refine lv_iinc (v := (nI (k + 1))) (lv' := [(4, .int (nI (k + 1))), (2, .long r_8), (5, .long r_8), (0, .ref (ad 0)), (1, .int (nI q))]) hx hb de_S_findPumping_89 hl (k := 4) rfl (nI_1 k) (by decide) rfl (fun ls hl => ?_)
                  refine lv_goto (tgt := 36) hx hb de_S_findPumping_92 (by decide) ?_
                  exact ih (k + 1) r_8 t_14 (by omega) (by refine ⟨?_, ?_, ?_, ?_, ?_, ?_⟩ <;> omega) (by rw [← hq2, x_fp, ← et_7, ← hw_8]; first | (rw [if_neg (fun z => z.elim c_9 (fun y => absurd c_12 (Int64.not_le.mpr y)))]; done) | (rw [if_neg (fun z => z.elim c_9 (fun y => absurd c_12 (Int64.not_le.mpr y)))]; subst_vars; rfl) | (rw [if_pos (Or.inl c_9), if_pos c_12]; done) | (rw [if_pos (Or.inl c_9), if_pos c_12]; subst_vars; rfl) | (rw [if_pos (Or.inl c_9), if_neg c_12]; done) | (rw [if_pos (Or.inl c_9), if_neg c_12]; subst_vars; rfl) | (rw [if_pos (Or.inr (Int64.not_le.mp c_12)), if_pos nope]; done) | (rw [if_pos (Or.inr (Int64.not_le.mp c_12)), if_pos nope]; subst_vars; rfl) | (rw [if_pos (Or.inr (Int64.not_le.mp c_12)), if_neg nope]; done) | (rw [if_pos (Or.inr (Int64.not_le.mp c_12)), if_neg nope]; subst_vars; rfl)) H locs ls hP hD hS (lv_sub hl [3, 4, 1, 0] rfl)
              · skip
                refine lv_lload hx hb de_S_findPumping_65 (lv_at hl 0 rfl) ?_
                refine lv_lload_n hx hb de_S_findPumping_67 rfl (lv_at hl 3 rfl) ?_
                refine rw_ge (tgt := 89) hx hb de_S_findPumping_68 de_S_findPumping_69 (by decide) (fun c_15 => ?_) (fun c_15 => ?_)
                · skip
                  refine lv_iinc (v := (nI (k + 1))) (lv' := [(4, .int (nI (k + 1))), (5, .long r_8), (0, .ref (ad 0)), (1, .int (nI q)), (2, .long b)]) hx hb de_S_findPumping_89 hl (k := 4) rfl (nI_1 k) (by decide) rfl (fun ls hl => ?_)
                  refine lv_goto (tgt := 36) hx hb de_S_findPumping_92 (by decide) ?_
                  exact ih (k + 1) b t_7 (by omega) (by refine ⟨?_, ?_, ?_, ?_, ?_, ?_⟩ <;> omega) (by rw [← hq2, x_fp, ← et_7, ← hw_8]; first | (rw [if_neg (fun z => z.elim c_9 (fun y => absurd c_15 (Int64.not_le.mpr y)))]; done) | (rw [if_neg (fun z => z.elim c_9 (fun y => absurd c_15 (Int64.not_le.mpr y)))]; subst_vars; rfl) | (rw [if_pos (Or.inl c_9), if_pos c_15]; done) | (rw [if_pos (Or.inl c_9), if_pos c_15]; subst_vars; rfl) | (rw [if_pos (Or.inl c_9), if_neg c_15]; done) | (rw [if_pos (Or.inl c_9), if_neg c_15]; subst_vars; rfl) | (rw [if_pos (Or.inr (Int64.not_le.mp c_15)), if_pos nope]; done) | (rw [if_pos (Or.inr (Int64.not_le.mp c_15)), if_pos nope]; subst_vars; rfl) | (rw [if_pos (Or.inr (Int64.not_le.mp c_15)), if_neg nope]; done) | (rw [if_pos (Or.inr (Int64.not_le.mp c_15)), if_neg nope]; subst_vars; rfl)) H locs ls hP hD hS (lv_sub hl [2, 3, 4, 0] rfl)
                · skip
                  refine lv_aload_n hx hb de_S_findPumping_72 rfl (lv_at hl 1 rfl) ?_
                  refine cl_Vi (As := []) (rest := []) ⟨hx, hb, hml, hown, hts⟩ (mt_S_leastBroken l dC dI ad T t_7 (show Iv t_7 from (by refine ⟨?_, ?_, ?_, ?_, ?_, ?_⟩ <;> omega))) (cwV 0 hts (uw_V uw_341 uw_343 uw_3 uw_27 uw_344) rfl rfl rfl (by decide +kernel) ⟨Nat.le_of_ble_eq_true rfl, Nat.le_of_ble_eq_true rfl⟩) (va_recv hK hP (ci := 0) (q0 := 0) rfl rfl) rfl hl.1 rfl (Nat.le_of_ble_eq_true rfl) de_S_findPumping_73 ⟨Nat.zero_le _, Nat.zero_le _⟩ hK hN hP hD hS hA (fun r_16 _ H locs hw_16 hP hD hS => ?_)
                  have hw_16 : r_16 = nI (x_lbn t_7) := hw_16
                  subst hw_16
                  have : x_lbn t_7 ≤ 1 + t_7.2.2.2 3 := x_lb_le _ _ _
                  obtain ⟨t_17, et_17⟩ : ∃ z, z = x_lbt t_7 := ⟨_, rfl⟩
                  have hP : va_P (dC, dI) CLS (wS ad T t_17) H := by rw [et_17]; exact hP
                  have hD : va_D A (wS ad T t_17) := by rw [et_17]; exact hD
                  obtain ⟨_, _, _, _, _, _⟩ : N6p t_17 t_7 := by rw [et_17]; exact nsix (x_lb_N _ _ _)
                  refine lv_if_ne (tgt := 89) hx hb de_S_findPumping_76 (by decide) (fun c_18 => ?_) (fun c_18 => ?_)
                  · skip
                    have c_18 : ¬ (x_lbn t_7) = 0 := fun z => c_18 ((nz0 (by omega)).mpr z)
                    refine lv_iinc (v := (nI (k + 1))) (lv' := [(4, .int (nI (k + 1))), (5, .long r_8), (0, .ref (ad 0)), (1, .int (nI q)), (2, .long b)]) hx hb de_S_findPumping_89 hl (k := 4) rfl (nI_1 k) (by decide) rfl (fun ls hl => ?_)
                    refine lv_goto (tgt := 36) hx hb de_S_findPumping_92 (by decide) ?_
                    exact ih (k + 1) b t_17 (by omega) (by refine ⟨?_, ?_, ?_, ?_, ?_, ?_⟩ <;> omega) (by rw [← hq2, x_fp, ← et_7, ← hw_8]; first | (rw [if_neg (fun z => z.elim c_9 (fun y => absurd c_15 (Int64.not_le.mpr y)))]; done) | (rw [if_neg (fun z => z.elim c_9 (fun y => absurd c_15 (Int64.not_le.mpr y)))]; subst_vars; rfl) | (rw [if_pos (Or.inl c_9), if_pos c_15]; done) | (rw [if_pos (Or.inl c_9), if_pos c_15]; subst_vars; rfl) | (rw [if_pos (Or.inl c_9), if_neg c_15]; done) | (rw [if_pos (Or.inl c_9), if_neg c_15]; subst_vars; rfl) | (rw [if_pos (Or.inr (Int64.not_le.mp c_15)), if_pos c_18]; done) | (rw [if_pos (Or.inr (Int64.not_le.mp c_15)), if_pos c_18]; subst_vars; rfl) | (rw [if_pos (Or.inr (Int64.not_le.mp c_15)), if_neg c_18]; done) | (rw [if_pos (Or.inr (Int64.not_le.mp c_15)), if_neg c_18]; subst_vars; rfl)) H locs ls hP hD hS (lv_sub hl [2, 3, 4, 0] rfl)
                  · skip
                    have c_18 : (x_lbn t_7) = 0 := (nz0 (by omega)).mp c_18
                    refine lv_lload hx hb de_S_findPumping_79 (lv_at hl 0 rfl) ?_
                    refine lv_lstore_n (lv' := [(2, .long r_8), (5, .long r_8), (0, .ref (ad 0)), (1, .int (nI q)), (4, .int (nI k))]) hx hb de_S_findPumping_81 rfl hl (by decide) rfl (fun ls hl => ?_)
                    refine lv_aload_n hx hb de_S_findPumping_82 rfl (lv_at hl 2 rfl) ?_
                    refine va_get (D := (dC, dI)) (ci := 0) (v := .ref (ad 2)) (C := "StabilitySums") (T := TB_S) (N := 10) hx hb hts ui_S hown hK hP 0 rfl rfl 1 (by decide) (hts _ uw_257) (fun _ h9 => h9) rfl de_S_findPumping_83 ?_
                    refine cl_Vv (As := []) (rest := []) ⟨hx, hb, hml, hown, hts⟩ (mt_T_keepTried l dC dI ad T t_17 (show t_17.2.2.2 1 ≤ 4 from by omega)) (cwV 0 hts (uw_V uw_415 uw_416 uw_417 uw_29 uw_418) rfl rfl rfl (by decide +kernel) ⟨Nat.le_of_ble_eq_true rfl, Nat.le_of_ble_eq_true rfl⟩) (va_recv hK hP (ci := 2) (q0 := 2) rfl rfl) rfl hl.1 rfl (Nat.le_of_ble_eq_true rfl) de_S_findPumping_86 ⟨Nat.zero_le _, Nat.zero_le _⟩ hK hN hP hD hS hA (fun _ H locs hw_19 hP hD hS => ?_)
                    obtain ⟨t_20, et_20⟩ : ∃ z, z = x_kt (t_17.2.2.2 1) 0 t_17 := ⟨_, rfl⟩
                    have hP : va_P (dC, dI) CLS (wS ad T t_20) H := by rw [et_20]; exact hP
                    have hD : va_D A (wS ad T t_20) := by rw [et_20]; exact hD
                    obtain ⟨_, _, _, _, _, _⟩ : N6p t_20 t_17 := by rw [et_20]; exact nsix (x_kt_N _ _ _)
                    refine lv_iinc (v := (nI (k + 1))) (lv' := [(4, .int (nI (k + 1))), (2, .long r_8), (5, .long r_8), (0, .ref (ad 0)), (1, .int (nI q))]) hx hb de_S_findPumping_89 hl (k := 4) rfl (nI_1 k) (by decide) rfl (fun ls hl => ?_)
                    refine lv_goto (tgt := 36) hx hb de_S_findPumping_92 (by decide) ?_
                    exact ih (k + 1) r_8 t_20 (by omega) (by refine ⟨?_, ?_, ?_, ?_, ?_, ?_⟩ <;> omega) (by rw [← hq2, x_fp, ← et_7, ← hw_8]; first | (rw [if_neg (fun z => z.elim c_9 (fun y => absurd c_15 (Int64.not_le.mpr y)))]; done) | (rw [if_neg (fun z => z.elim c_9 (fun y => absurd c_15 (Int64.not_le.mpr y)))]; subst_vars; rfl) | (rw [if_pos (Or.inl c_9), if_pos c_15]; done) | (rw [if_pos (Or.inl c_9), if_pos c_15]; subst_vars; rfl) | (rw [if_pos (Or.inl c_9), if_neg c_15]; done) | (rw [if_pos (Or.inl c_9), if_neg c_15]; subst_vars; rfl) | (rw [if_pos (Or.inr (Int64.not_le.mp c_15)), if_pos c_18]; done) | (rw [if_pos (Or.inr (Int64.not_le.mp c_15)), if_pos c_18]; subst_vars; rfl) | (rw [if_pos (Or.inr (Int64.not_le.mp c_15)), if_neg c_18]; done) | (rw [if_pos (Or.inr (Int64.not_le.mp c_15)), if_neg c_18]; subst_vars; rfl)) H locs ls hP hD hS (lv_sub hl [3, 4, 1, 0] rfl)
        exact loop_36 q 0 (-1) t_3 (by omega) (nsix rfl) (by rw [x_pump, et_3, hqe]) _ _ ls hP hD hS (lv_sub hl [2, 3, 1, 0] rfl)
      · skip
        have c_1 : ¬ ((t.2.2.2 1) ≤ i) := fun z => c_1 ((nI_leI (a := (t.2.2.2 1)) (b := i) (by omega) (by omega)).mpr z)
        exfalso; omega
    | succ n ih =>
      intro i q hi hq H locs ls hP hD hS hl
      refine lv_iload_n hx hb de_S_findPumping_4 rfl (lv_at hl 2 rfl) ?_
      refine lv_aload_n hx hb de_S_findPumping_5 rfl (lv_at hl 0 rfl) ?_
      refine va_get (D := (dC, dI)) (ci := 0) (v := .ref (ad 2)) (C := "StabilitySums") (T := TB_S) (N := 10) hx hb hts ui_S hown hK hP 0 rfl rfl 1 (by decide) (hts _ uw_257) (fun _ h9 => h9) rfl de_S_findPumping_6 ?_
      refine va_get (D := (dC, dI)) (ci := 2) (v := .int (nI (t.2.2.2 1))) (C := "StabilitySums$Tanks") (T := TB_T) (N := 9) hx hb hts ui_T hown hK hP 2 rfl rfl 8 (by decide) (hts _ uw_103) (fun _ h9 => h9) rfl de_S_findPumping_9 ?_
      refine lv_icmp_ge (tgt := 25) hx hb de_S_findPumping_12 (by decide) (fun c_21 => ?_) (fun c_21 => ?_)
      · skip
        have c_21 : (t.2.2.2 1) ≤ i := (nI_leI (a := (t.2.2.2 1)) (b := i) (by omega) (by omega)).mp c_21
        exfalso; omega
      · skip
        have c_21 : ¬ ((t.2.2.2 1) ≤ i) := fun z => c_21 ((nI_leI (a := (t.2.2.2 1)) (b := i) (by omega) (by omega)).mpr z)
        refine lv_iload_n hx hb de_S_findPumping_15 rfl (lv_at hl 1 rfl) ?_
        refine lv_iconst (v := 5) hx hb de_S_findPumping_16 (by decide) ?_
        refine lv_imul hx hb de_S_findPumping_17 ?_
        refine lv_topi (fun v_22 ev_22 => ?_)
        have ev_22 : v_22 = (nI (q * 5)) := ev_22.trans (pk_mul q 5)
        subst ev_22
        refine lv_istore_n (lv' := [(1, .int (nI (q * 5))), (0, .ref (ad 0)), (2, .int (nI i))]) hx hb de_S_findPumping_18 rfl hl (by decide) rfl (fun ls hl => ?_)
        refine lv_iinc (v := (nI (i + 1))) (lv' := [(2, .int (nI (i + 1))), (1, .int (nI (q * 5))), (0, .ref (ad 0))]) hx hb de_S_findPumping_19 hl (k := 2) rfl (nI_1 i) (by decide) rfl (fun ls hl => ?_)
        refine lv_goto (tgt := 4) hx hb de_S_findPumping_22 (by decide) ?_
        exact ih (i + 1) (q * 5) (by omega) (by rw [hq, Nat.pow_succ]) H locs ls hP hD hS (lv_sub hl [2, 1, 0] rfl)
  exact loop_4 (t.2.2.2 1) 0 1 (by omega) rfl _ _ ls hP hD hS (lv_sub hl [2, 1, 0] rfl)
set_option maxHeartbeats 4000000 in
set_option maxRecDepth 100000 in
theorem mt_S_hull (l : Launch) (dC : Nat → ClassId) (dI : Nat → Nat → Nat) (ad : Nat → Nat) (T : Nat → ClassId) (t : St) (a0 : Int64) (a1 : Int64)  (sz : Nat) : Met l yn_S_hull (.code yn_S_hull cd_S_hull 5 (some .boolean) :: UW) ({ frames := 2, cells := 0, slots := 0, locals := 46 } : Room) (va_Pc [.ref (ad 0), .long a0, .long a1] (Pw (dC, dI) CLS (TY T) (wS ad T t) sz)) (va_Qi (fun (r : Int32) (_ : Unit) => bz r (x_hullp a0 a1)) (Bw (dC, dI) CLS (TY T) (fun _ : Unit => (wS ad T (x_hullt a0 a1 t))) (va_A (wS ad T t) sz)) (va_A (wS ad T t) sz)) 0 0 (va_A (wS ad T t) sz) := by
  refine Met.ofW (cc := cd_S_hull) (maxL := 5) (ret := (some .boolean)) (by decide) rfl ?_
  intro p e s m args below meth c s₁ B hml hv
  obtain ⟨rfl, hsz, hP, hK, hD0, hN⟩ := hv
  have hx := B.exec
  have hb := B.bytes
  have hr := B.returns
  have hts : ∀ w ∈ UW, w.before _ s = true := fun w h => atoms_spec (ws := .code yn_S_hull cd_S_hull 5 (some .boolean) :: UW) B.pre w (List.mem_cons_of_mem _ h)
  have hown : s.vm.findClass "StabilitySums" = some m.cls := findClass_of_methodNamed B.named
  have hlocks := B.notSynchronized
  subst hsz
  have hD := hD0.self (sz := s.heap.size)
  generalize hAe : va_A (wS ad T t) s.heap.size = A at hD ⊢
  have hA : ∀ q : Nat, s.heap.size ≤ q → A q := fun q h => by rw [← hAe]; exact Or.inr h
  have hS : va_S A s.heap s.heap [] := va_S.rf
  have hl := lv_entry ([.ref (ad 0), .long a0, .long a1]) (n := 5) (Nat.le_of_ble_eq_true rfl)
  rw [lg_entry_eq]
  generalize (lg_sl ([.ref (ad 0), .long a0, .long a1]) ++ List.replicate (5 - (lg_sl ([.ref (ad 0), .long a0, .long a1])).length) Slot.unset).toArray = ls at hl ⊢
  have hl : lv_has ls 5 [(0, .ref (ad 0)), (1, .long a0), (3, .long a1)] := hl
  generalize hQ : MQ below _ _ s 0 0 A = Q
  refine lv_lload_n hx hb de_S_hull_0 rfl (lv_at hl 1 rfl) ?_
  refine cl_Si (As := [.long a0]) (rest := []) ⟨hx, hb, hml, hown, hts⟩ (mt_S_isPlace l dC dI ad T t a0) (va_cwS 1 hts (uw_S uw_291 uw_292 uw_27 uw_293) rfl rfl rfl (by decide +kernel) ⟨Nat.le_of_ble_eq_true rfl, Nat.le_of_ble_eq_true rfl⟩) rfl hl.1 rfl (Nat.le_of_ble_eq_true rfl) de_S_hull_1 ⟨Nat.zero_le _, Nat.zero_le _⟩ hK hN hP hD hS hA (fun r_1 _ H locs hw_1 hP hD hS => ?_)
  have hw_1 : bz r_1 (x_pl a0) := hw_1
  refine lv_if_eq (tgt := 20) hx hb de_S_hull_4 (by decide) (fun c_2 => ?_) (fun c_2 => ?_)
  · skip
    have c_2 := bz_f hw_1 c_2
    refine lv_iconst (v := 0) hx hb de_S_hull_20 (by decide) ?_
    have hfin : t = x_hullt a0 a1 t := by
      unfold x_hullt; first | (rw [if_pos ⟨c_2, nope, nope⟩]; done) | (rw [if_neg (by grind)]; done)
    rw [hfin] at hP hD
    subst hQ
    have hpost : bz 0 (x_hullp a0 a1) := by
      first | exact Or.inl ⟨rfl, ⟨c_2, nope, nope⟩⟩ | exact Or.inr ⟨rfl, by grind⟩
    exact W.zret (v := 0) hx hb hr (bz_nar hpost) (fun t9 ht hW => ⟨⟨0, (), rfl, hpost, by rw [ht]; exact hP, va_K.moved hW.alike hK, hD⟩, hS.F ht⟩) hS.2.2 de_S_hull_21
  · skip
    have c_2 := bz_t hw_1 c_2
    refine lv_lload_n hx hb de_S_hull_7 rfl (lv_at hl 2 rfl) ?_
    refine cl_Si (As := [.long a1]) (rest := []) ⟨hx, hb, hml, hown, hts⟩ (mt_S_isPlace l dC dI ad T t a1) (va_cwS 1 hts (uw_S uw_291 uw_292 uw_27 uw_293) rfl rfl rfl (by decide +kernel) ⟨Nat.le_of_ble_eq_true rfl, Nat.le_of_ble_eq_true rfl⟩) rfl hl.1 rfl (Nat.le_of_ble_eq_true rfl) de_S_hull_8 ⟨Nat.zero_le _, Nat.zero_le _⟩ hK hN hP hD hS hA (fun r_3 _ H locs hw_3 hP hD hS => ?_)
    have hw_3 : bz r_3 (x_pl a1) := hw_3
    refine lv_if_eq (tgt := 20) hx hb de_S_hull_11 (by decide) (fun c_4 => ?_) (fun c_4 => ?_)
    · skip
      have c_4 := bz_f hw_3 c_4
      refine lv_iconst (v := 0) hx hb de_S_hull_20 (by decide) ?_
      have hfin : t = x_hullt a0 a1 t := by
        unfold x_hullt; first | (rw [if_pos ⟨c_2, c_4, nope⟩]; done) | (rw [if_neg (by grind)]; done)
      rw [hfin] at hP hD
      subst hQ
      have hpost : bz 0 (x_hullp a0 a1) := by
        first | exact Or.inl ⟨rfl, ⟨c_2, c_4, nope⟩⟩ | exact Or.inr ⟨rfl, by grind⟩
      exact W.zret (v := 0) hx hb hr (bz_nar hpost) (fun t9 ht hW => ⟨⟨0, (), rfl, hpost, by rw [ht]; exact hP, va_K.moved hW.alike hK, hD⟩, hS.F ht⟩) hS.2.2 de_S_hull_21
    · skip
      have c_4 := bz_t hw_3 c_4
      refine lv_lload_n hx hb de_S_hull_14 rfl (lv_at hl 1 rfl) ?_
      refine lv_lload_n hx hb de_S_hull_15 rfl (lv_at hl 2 rfl) ?_
      refine rw_lt (tgt := 22) hx hb de_S_hull_16 de_S_hull_17 (by decide) (fun c_5 => ?_) (fun c_5 => ?_)
      · skip
        refine lv_aload_n hx hb de_S_hull_22 rfl (lv_at hl 0 rfl) ?_
        refine lv_lload_n hx hb de_S_hull_23 rfl (lv_at hl 1 rfl) ?_
        refine va_put (D := (dC, dI)) (ci := 0) (v := .long a0) (ty := .long) (C := "StabilitySums") (T := TB_S) (N := 10) hx hb hts ui_S tt_S tk_S nm_S hown hK hP hD hS 0 rfl rfl 8 (by decide) (hts _ uw_264) (fun _ h9 => h9) rfl (by decide +kernel) rfl rfl (Nat.le_of_ble_eq_true rfl) de_S_hull_24 (fun H locs hP hD hS => ?_)
        have hP : va_P (dC, dI) CLS (wS ad T (sF t 0 a0)) H := hP
        have hD : va_D A (wS ad T (sF t 0 a0)) := hD
        refine lv_aload_n hx hb de_S_hull_27 rfl (lv_at hl 0 rfl) ?_
        refine lv_lload_n hx hb de_S_hull_28 rfl (lv_at hl 2 rfl) ?_
        refine va_put (D := (dC, dI)) (ci := 0) (v := .long a1) (ty := .long) (C := "StabilitySums") (T := TB_S) (N := 10) hx hb hts ui_S tt_S tk_S nm_S hown hK hP hD hS 0 rfl rfl 9 (by decide) (hts _ uw_265) (fun _ h9 => h9) rfl (by decide +kernel) rfl rfl (Nat.le_of_ble_eq_true rfl) de_S_hull_29 (fun H locs hP hD hS => ?_)
        have hP : va_P (dC, dI) CLS (wS ad T (sF (sF t 0 a0) 1 a1)) H := hP
        have hD : va_D A (wS ad T (sF (sF t 0 a0) 1 a1)) := hD
        refine lv_iconst (v := 1) hx hb de_S_hull_32 (by decide) ?_
        have hfin : (sF (sF t 0 a0) 1 a1) = x_hullt a0 a1 t := by
          unfold x_hullt; first | (rw [if_pos ⟨c_2, c_4, c_5⟩]; done) | (rw [if_neg (by grind)]; done)
        rw [hfin] at hP hD
        subst hQ
        have hpost : bz 1 (x_hullp a0 a1) := by
          first | exact Or.inl ⟨rfl, ⟨c_2, c_4, c_5⟩⟩ | exact Or.inr ⟨rfl, by grind⟩
        exact W.zret (v := 1) hx hb hr (bz_nar hpost) (fun t9 ht hW => ⟨⟨1, (), rfl, hpost, by rw [ht]; exact hP, va_K.moved hW.alike hK, hD⟩, hS.F ht⟩) hS.2.2 de_S_hull_33
      · skip
        refine lv_iconst (v := 0) hx hb de_S_hull_20 (by decide) ?_
        have hfin : t = x_hullt a0 a1 t := by
          unfold x_hullt; first | (rw [if_pos ⟨c_2, c_4, c_5⟩]; done) | (rw [if_neg (by grind)]; done)
        rw [hfin] at hP hD
        subst hQ
        have hpost : bz 0 (x_hullp a0 a1) := by
          first | exact Or.inl ⟨rfl, ⟨c_2, c_4, c_5⟩⟩ | exact Or.inr ⟨rfl, by grind⟩
        exact W.zret (v := 0) hx hb hr (bz_nar hpost) (fun t9 ht hW => ⟨⟨0, (), rfl, hpost, by rw [ht]; exact hP, va_K.moved hW.alike hK, hD⟩, hS.F ht⟩) hS.2.2 de_S_hull_21
set_option maxHeartbeats 4000000 in
set_option maxRecDepth 100000 in
theorem mt_S_check (l : Launch) (dC : Nat → ClassId) (dI : Nat → Nat → Nat) (ad : Nat → Nat) (T : Nat → ClassId) (t : St)  (hI : Iv t) (sz : Nat) : Met l yn_S_check (.code yn_S_check cd_S_check 1 (some .int) :: UW) ({ frames := 5, cells := 0, slots := 0, locals := 123 } : Room) (va_Pc [.ref (ad 0)] (Pw (dC, dI) CLS (TY T) (wS ad T t) sz)) (va_Qi (fun (r : Int32) (_ : Unit) => r = nI (x_lbn (x_gath t))) (Bw (dC, dI) CLS (TY T) (fun _ : Unit => (wS ad T (x_lbt (x_gath t)))) (va_A (wS ad T t) sz)) (va_A (wS ad T t) sz)) 0 0 (va_A (wS ad T t) sz) := by
  refine Met.ofW (cc := cd_S_check) (maxL := 1) (ret := (some .int)) (by decide) rfl ?_
  intro p e s m args below meth c s₁ B hml hv
  obtain ⟨rfl, hsz, hP, hK, hD0, hN⟩ := hv
  have hx := B.exec
  have hb := B.bytes
  have hr := B.returns
  have hts : ∀ w ∈ UW, w.before _ s = true := fun w h => atoms_spec (ws := .code yn_S_check cd_S_check 1 (some .int) :: UW) B.pre w (List.mem_cons_of_mem _ h)
  have hown : s.vm.findClass "StabilitySums" = some m.cls := findClass_of_methodNamed B.named
  have hlocks := B.notSynchronized
  subst hsz
  have hD := hD0.self (sz := s.heap.size)
  generalize hAe : va_A (wS ad T t) s.heap.size = A at hD ⊢
  have hA : ∀ q : Nat, s.heap.size ≤ q → A q := fun q h => by rw [← hAe]; exact Or.inr h
  have hS : va_S A s.heap s.heap [] := va_S.rf
  have hl := lv_entry ([.ref (ad 0)]) (n := 1) (Nat.le_of_ble_eq_true rfl)
  rw [lg_entry_eq]
  generalize (lg_sl ([.ref (ad 0)]) ++ List.replicate (1 - (lg_sl ([.ref (ad 0)])).length) Slot.unset).toArray = ls at hl ⊢
  have hl : lv_has ls 1 [(0, .ref (ad 0))] := hl
  generalize hQ : MQ below _ _ s 0 0 A = Q
  obtain ⟨hI0, hI1, hI2, hI3, hI4, hI5⟩ := hI
  refine lv_aload_n hx hb de_S_check_0 rfl (lv_at hl 0 rfl) ?_
  refine cl_Vv (As := []) (rest := []) ⟨hx, hb, hml, hown, hts⟩ (mt_S_gather l dC dI ad T t (show Iv t from (by refine ⟨?_, ?_, ?_, ?_, ?_, ?_⟩ <;> omega))) (cwV 0 hts (uw_V uw_302 uw_304 uw_0 uw_27 uw_305) rfl rfl rfl (by decide +kernel) ⟨Nat.le_of_ble_eq_true rfl, Nat.le_of_ble_eq_true rfl⟩) (va_recv hK hP (ci := 0) (q0 := 0) rfl rfl) rfl hl.1 rfl (Nat.le_of_ble_eq_true rfl) de_S_check_1 ⟨Nat.zero_le _, Nat.zero_le _⟩ hK hN hP hD hS hA (fun _ H locs hw_1 hP hD hS => ?_)
  obtain ⟨t_2, et_2⟩ : ∃ z, z = x_gath t := ⟨_, rfl⟩
  have hP : va_P (dC, dI) CLS (wS ad T t_2) H := by rw [et_2]; exact hP
  have hD : va_D A (wS ad T t_2) := by rw [et_2]; exact hD
  obtain ⟨_, _, _, _, _, _⟩ : t_2.2.2.2 0 = t.2.2.2 0 ∧ t_2.2.2.2 1 = t.2.2.2 1 ∧ t_2.2.2.2 2 = t.2.2.2 2 ∧ t_2.2.2.2 3 = t.2.2.2 3 ∧ t_2.2.2.2 4 = t.2.2.2 4 ∧ t_2.2.2.2 5 = t.2.2.2 3 := by rw [et_2]; exact x_gath_6 t
  refine lv_aload_n hx hb de_S_check_4 rfl (lv_at hl 0 rfl) ?_
  refine cl_Vi (As := []) (rest := []) ⟨hx, hb, hml, hown, hts⟩ (mt_S_leastBroken l dC dI ad T t_2 (show Iv t_2 from (by refine ⟨?_, ?_, ?_, ?_, ?_, ?_⟩ <;> omega))) (cwV 0 hts (uw_V uw_341 uw_343 uw_3 uw_27 uw_344) rfl rfl rfl (by decide +kernel) ⟨Nat.le_of_ble_eq_true rfl, Nat.le_of_ble_eq_true rfl⟩) (va_recv hK hP (ci := 0) (q0 := 0) rfl rfl) rfl hl.1 rfl (Nat.le_of_ble_eq_true rfl) de_S_check_5 ⟨Nat.zero_le _, Nat.zero_le _⟩ hK hN hP hD hS hA (fun r_3 _ H locs hw_3 hP hD hS => ?_)
  have hw_3 : r_3 = nI (x_lbn t_2) := hw_3
  subst hw_3
  have : x_lbn t_2 ≤ 1 + t_2.2.2.2 3 := x_lb_le _ _ _
  obtain ⟨t_4, et_4⟩ : ∃ z, z = x_lbt t_2 := ⟨_, rfl⟩
  have hP : va_P (dC, dI) CLS (wS ad T t_4) H := by rw [et_4]; exact hP
  have hD : va_D A (wS ad T t_4) := by rw [et_4]; exact hD
  obtain ⟨_, _, _, _, _, _⟩ : N6p t_4 t_2 := by rw [et_4]; exact nsix (x_lb_N _ _ _)
  have hfin : t_4 = x_lbt (x_gath t) := by
    subst_vars; rfl
  rw [hfin] at hP hD
  subst hQ
  have hpost : (nI (x_lbn t_2)) = nI (x_lbn (x_gath t)) := by
    subst_vars; rfl
  exact W.iret (v := (nI (x_lbn t_2))) hx hb hr (fun t9 ht hW => ⟨⟨(nI (x_lbn t_2)), (), rfl, hpost, by rw [ht]; exact hP, va_K.moved hW.alike hK, hD⟩, hS.F ht⟩) hS.2.2 de_S_check_8
set_option maxHeartbeats 4000000 in
set_option maxRecDepth 100000 in
theorem mt_S_ballast (l : Launch) (dC : Nat → ClassId) (dI : Nat → Nat → Nat) (ad : Nat → Nat) (T : Nat → ClassId) (t : St)  (hI : Iv t) (sz : Nat) : Met l yn_S_ballast (.code yn_S_ballast cd_S_ballast 1 (some .long) :: UW) ({ frames := 6, cells := 0, slots := 0, locals := 149 } : Room) (va_Pc [.ref (ad 0)] (Pw (dC, dI) CLS (TY T) (wS ad T t) sz)) (va_Ql (fun (r : Int64) (_ : Unit) => r = (x_pump t).1) (Bw (dC, dI) CLS (TY T) (fun _ : Unit => (wS ad T ((x_pump t).2))) (va_A (wS ad T t) sz)) (va_A (wS ad T t) sz)) 0 0 (va_A (wS ad T t) sz) := by
  refine Met.ofW (cc := cd_S_ballast) (maxL := 1) (ret := (some .long)) (by decide) rfl ?_
  intro p e s m args below meth c s₁ B hml hv
  obtain ⟨rfl, hsz, hP, hK, hD0, hN⟩ := hv
  have hx := B.exec
  have hb := B.bytes
  have hr := B.returns
  have hts : ∀ w ∈ UW, w.before _ s = true := fun w h => atoms_spec (ws := .code yn_S_ballast cd_S_ballast 1 (some .long) :: UW) B.pre w (List.mem_cons_of_mem _ h)
  have hown : s.vm.findClass "StabilitySums" = some m.cls := findClass_of_methodNamed B.named
  have hlocks := B.notSynchronized
  subst hsz
  have hD := hD0.self (sz := s.heap.size)
  generalize hAe : va_A (wS ad T t) s.heap.size = A at hD ⊢
  have hA : ∀ q : Nat, s.heap.size ≤ q → A q := fun q h => by rw [← hAe]; exact Or.inr h
  have hS : va_S A s.heap s.heap [] := va_S.rf
  have hl := lv_entry ([.ref (ad 0)]) (n := 1) (Nat.le_of_ble_eq_true rfl)
  rw [lg_entry_eq]
  generalize (lg_sl ([.ref (ad 0)]) ++ List.replicate (1 - (lg_sl ([.ref (ad 0)])).length) Slot.unset).toArray = ls at hl ⊢
  have hl : lv_has ls 1 [(0, .ref (ad 0))] := hl
  generalize hQ : MQ below _ _ s 0 0 A = Q
  obtain ⟨hI0, hI1, hI2, hI3, hI4, hI5⟩ := hI
  refine lv_aload_n hx hb de_S_ballast_0 rfl (lv_at hl 0 rfl) ?_
  refine cl_Vl (As := []) (rest := []) ⟨hx, hb, hml, hown, hts⟩ (mt_S_findPumping l dC dI ad T t (show Iv t from (by refine ⟨?_, ?_, ?_, ?_, ?_, ?_⟩ <;> omega))) (cwV 0 hts (uw_V uw_398 uw_400 uw_9 uw_27 uw_401) rfl rfl rfl (by decide +kernel) ⟨Nat.le_of_ble_eq_true rfl, Nat.le_of_ble_eq_true rfl⟩) (va_recv hK hP (ci := 0) (q0 := 0) rfl rfl) rfl hl.1 rfl (Nat.le_of_ble_eq_true rfl) de_S_ballast_1 ⟨Nat.zero_le _, Nat.zero_le _⟩ hK hN hP hD hS hA (fun r_1 _ H locs hw_1 hP hD hS => ?_)
  have hw_1 : r_1 = (x_pump t).1 := hw_1
  obtain ⟨t_2, et_2⟩ : ∃ z, z = (x_pump t).2 := ⟨_, rfl⟩
  have hP : va_P (dC, dI) CLS (wS ad T t_2) H := by rw [et_2]; exact hP
  have hD : va_D A (wS ad T t_2) := by rw [et_2]; exact hD
  have hfin : t_2 = (x_pump t).2 := by
    assumption
  rw [hfin] at hP hD
  subst hQ
  have hpost : r_1 = (x_pump t).1 := by
    assumption
  exact W.lret (v := r_1) hx hb hr (fun t9 ht hW => ⟨⟨r_1, (), rfl, hpost, by rw [ht]; exact hP, va_K.moved hW.alike hK, hD⟩, hS.F ht⟩) hS.2.2 de_S_ballast_4
set_option maxHeartbeats 4000000 in
set_option maxRecDepth 100000 in
theorem mt_S_broken (l : Launch) (dC : Nat → ClassId) (dI : Nat → Nat → Nat) (ad : Nat → Nat) (T : Nat → ClassId) (t : St)  (hI : Iv t) (hE : EO t) (sz : Nat) : Met l yn_S_broken (.code yn_S_broken cd_S_broken 2 (some .int) :: UW) ({ frames := 5, cells := 0, slots := 0, locals := 123 } : Room) (va_Pc [.ref (ad 0)] (Pw (dC, dI) CLS (TY T) (wS ad T t) sz)) (va_Qi (fun (r : Int32) (_ : Unit) => r = (x_broken t).1) (Bw (dC, dI) CLS (TY T) (fun _ : Unit => (wS ad T ((x_broken t).2))) (va_A (wS ad T t) sz)) (va_A (wS ad T t) sz)) 0 0 (va_A (wS ad T t) sz) := by
  refine Met.ofW (cc := cd_S_broken) (maxL := 2) (ret := (some .int)) (by decide) rfl ?_
  intro p e s m args below meth c s₁ B hml hv
  obtain ⟨rfl, hsz, hP, hK, hD0, hN⟩ := hv
  have hx := B.exec
  have hb := B.bytes
  have hr := B.returns
  have hts : ∀ w ∈ UW, w.before _ s = true := fun w h => atoms_spec (ws := .code yn_S_broken cd_S_broken 2 (some .int) :: UW) B.pre w (List.mem_cons_of_mem _ h)
  have hown : s.vm.findClass "StabilitySums" = some m.cls := findClass_of_methodNamed B.named
  have hlocks := B.notSynchronized
  subst hsz
  have hD := hD0.self (sz := s.heap.size)
  generalize hAe : va_A (wS ad T t) s.heap.size = A at hD ⊢
  have hA : ∀ q : Nat, s.heap.size ≤ q → A q := fun q h => by rw [← hAe]; exact Or.inr h
  have hS : va_S A s.heap s.heap [] := va_S.rf
  have hl := lv_entry ([.ref (ad 0)]) (n := 2) (Nat.le_of_ble_eq_true rfl)
  rw [lg_entry_eq]
  generalize (lg_sl ([.ref (ad 0)]) ++ List.replicate (2 - (lg_sl ([.ref (ad 0)])).length) Slot.unset).toArray = ls at hl ⊢
  have hl : lv_has ls 2 [(0, .ref (ad 0))] := hl
  generalize hQ : MQ below _ _ s 0 0 A = Q
  obtain ⟨hI0, hI1, hI2, hI3, hI4, hI5⟩ := hI
  refine lv_aload_n hx hb de_S_broken_0 rfl (lv_at hl 0 rfl) ?_
  refine cl_Vv (As := []) (rest := []) ⟨hx, hb, hml, hown, hts⟩ (mt_S_gather l dC dI ad T t (show Iv t from (by refine ⟨?_, ?_, ?_, ?_, ?_, ?_⟩ <;> omega))) (cwV 0 hts (uw_V uw_302 uw_304 uw_0 uw_27 uw_305) rfl rfl rfl (by decide +kernel) ⟨Nat.le_of_ble_eq_true rfl, Nat.le_of_ble_eq_true rfl⟩) (va_recv hK hP (ci := 0) (q0 := 0) rfl rfl) rfl hl.1 rfl (Nat.le_of_ble_eq_true rfl) de_S_broken_1 ⟨Nat.zero_le _, Nat.zero_le _⟩ hK hN hP hD hS hA (fun _ H locs hw_1 hP hD hS => ?_)
  obtain ⟨t_2, et_2⟩ : ∃ z, z = x_gath t := ⟨_, rfl⟩
  have hP : va_P (dC, dI) CLS (wS ad T t_2) H := by rw [et_2]; exact hP
  have hD : va_D A (wS ad T t_2) := by rw [et_2]; exact hD
  obtain ⟨_, _, _, _, _, _⟩ : t_2.2.2.2 0 = t.2.2.2 0 ∧ t_2.2.2.2 1 = t.2.2.2 1 ∧ t_2.2.2.2 2 = t.2.2.2 2 ∧ t_2.2.2.2 3 = t.2.2.2 3 ∧ t_2.2.2.2 4 = t.2.2.2 4 ∧ t_2.2.2.2 5 = t.2.2.2 3 := by rw [et_2]; exact x_gath_6 t
  refine lv_iconst (v := 0) hx hb de_S_broken_4 (by decide) ?_
  refine lv_istore_n (lv' := [(1, .int 0), (0, .ref (ad 0))]) hx hb de_S_broken_5 rfl hl (by decide) rfl (fun ls hl => ?_)
  have loop_6 : ∀ (n : Nat) (i : Nat) (t1 : St), (i + n = t.2.2.2 4) → (N6p t1 t_2) → (EO t1) → (x_br n i t1 = x_broken t) → ∀ (H : Heap) (locs : List Loc) (ls : Array Slot), va_P (dC, dI) CLS (wS ad T t1) H → va_D A (wS ad T t1) → va_S A s.heap H locs → lv_has ls 2 [(0, .ref (ad 0)), (1, .int (nI i))] → W p l e (headSpec (.code yn_S_broken cd_S_broken 2 (some .int) :: UW) ({ frames := 5, cells := 0, slots := 0, locals := 123 } : Room)).room s m ([.ref (ad 0)] : List Value).toArray below meth c H locs 0 0 Q (F0 m 6 ls []) := by
    intro n
    induction n with
    | zero =>
      intro i t1 hi hk hE1 hq H locs ls hP hD hS hl
      obtain ⟨_, _, _, _, _, _⟩ := hk
      refine lv_iload_n hx hb de_S_broken_6 rfl (lv_at hl 1 rfl) ?_
      refine lv_aload_n hx hb de_S_broken_7 rfl (lv_at hl 0 rfl) ?_
      refine va_get (D := (dC, dI)) (ci := 0) (v := .ref (ad 5)) (C := "StabilitySums") (T := TB_S) (N := 10) hx hb hts ui_S hown hK hP 0 rfl rfl 4 (by decide) (hts _ uw_260) (fun _ h9 => h9) rfl de_S_broken_8 ?_
      refine va_get (D := (dC, dI)) (ci := 5) (v := .int (nI (t1.2.2.2 4))) (C := "StabilitySums$Steps") (T := TB_E) (N := 4) hx hb hts ui_E hown hK hP 5 rfl rfl 3 (by decide) (hts _ uw_180) (fun _ h9 => h9) rfl de_S_broken_11 ?_
      refine lv_icmp_ge (tgt := 37) hx hb de_S_broken_14 (by decide) (fun c_3 => ?_) (fun c_3 => ?_)
      · skip
        have c_3 : (t1.2.2.2 4) ≤ i := (nI_leI (a := (t1.2.2.2 4)) (b := i) (by omega) (by omega)).mp c_3
        refine lv_iconst (v := (-1)) hx hb de_S_broken_37 (by decide) ?_
        have hfin : t1 = (x_broken t).2 := by
          rw [← hq]
          first | rfl | (rw [x_br, if_neg (by subst_vars; exact c_3)]; subst_vars; rfl)
        rw [hfin] at hP hD
        subst hQ
        have hpost : (-1) = (x_broken t).1 := by
          rw [← hq]
          first | rfl | (rw [x_br, if_neg (by subst_vars; exact c_3)])
        exact W.iret (v := (-1)) hx hb hr (fun t9 ht hW => ⟨⟨(-1), (), rfl, hpost, by rw [ht]; exact hP, va_K.moved hW.alike hK, hD⟩, hS.F ht⟩) hS.2.2 de_S_broken_38
      · skip
        have c_3 : ¬ ((t1.2.2.2 4) ≤ i) := fun z => c_3 ((nI_leI (a := (t1.2.2.2 4)) (b := i) (by omega) (by omega)).mpr z)
        exfalso; omega
    | succ n ih =>
      intro i t1 hi hk hE1 hq H locs ls hP hD hS hl
      obtain ⟨_, _, _, _, _, _⟩ := hk
      refine lv_iload_n hx hb de_S_broken_6 rfl (lv_at hl 1 rfl) ?_
      refine lv_aload_n hx hb de_S_broken_7 rfl (lv_at hl 0 rfl) ?_
      refine va_get (D := (dC, dI)) (ci := 0) (v := .ref (ad 5)) (C := "StabilitySums") (T := TB_S) (N := 10) hx hb hts ui_S hown hK hP 0 rfl rfl 4 (by decide) (hts _ uw_260) (fun _ h9 => h9) rfl de_S_broken_8 ?_
      refine va_get (D := (dC, dI)) (ci := 5) (v := .int (nI (t1.2.2.2 4))) (C := "StabilitySums$Steps") (T := TB_E) (N := 4) hx hb hts ui_E hown hK hP 5 rfl rfl 3 (by decide) (hts _ uw_180) (fun _ h9 => h9) rfl de_S_broken_11 ?_
      refine lv_icmp_ge (tgt := 37) hx hb de_S_broken_14 (by decide) (fun c_4 => ?_) (fun c_4 => ?_)
      · skip
        have c_4 : (t1.2.2.2 4) ≤ i := (nI_leI (a := (t1.2.2.2 4)) (b := i) (by omega) (by omega)).mp c_4
        exfalso; omega
      · skip
        have c_4 : ¬ ((t1.2.2.2 4) ≤ i) := fun z => c_4 ((nI_leI (a := (t1.2.2.2 4)) (b := i) (by omega) (by omega)).mpr z)
        refine lv_aload_n hx hb de_S_broken_17 rfl (lv_at hl 0 rfl) ?_
        refine lv_iload_n hx hb de_S_broken_18 rfl (lv_at hl 1 rfl) ?_
        refine cl_Vv (As := [.int (nI i)]) (rest := []) ⟨hx, hb, hml, hown, hts⟩ (mt_S_tryStep l dC dI ad T t1 i (show Iv t1 from (by refine ⟨?_, ?_, ?_, ?_, ?_, ?_⟩ <;> omega)) (show i < 20 from by omega) (hE1 i (by omega)).1 (hE1 i (by omega)).2.1 (hE1 i (by omega)).2.2) (cwV 1 hts (uw_V uw_423 uw_425 uw_11 uw_27 uw_426) rfl rfl rfl (by decide +kernel) ⟨Nat.le_of_ble_eq_true rfl, Nat.le_of_ble_eq_true rfl⟩) (va_recv hK hP (ci := 0) (q0 := 0) rfl rfl) rfl hl.1 rfl (Nat.le_of_ble_eq_true rfl) de_S_broken_19 ⟨Nat.zero_le _, Nat.zero_le _⟩ hK hN hP hD hS hA (fun _ H locs hw_5 hP hD hS => ?_)
        obtain ⟨t_6, et_6⟩ : ∃ z, z = x_stp i t1 := ⟨_, rfl⟩
        have hP : va_P (dC, dI) CLS (wS ad T t_6) H := by rw [et_6]; exact hP
        have hD : va_D A (wS ad T t_6) := by rw [et_6]; exact hD
        obtain ⟨_, _, _, _, _, _⟩ : N6p t_6 t1 := by rw [et_6]; exact nsix (x_stp_N _ _)
        refine lv_aload_n hx hb de_S_broken_22 rfl (lv_at hl 0 rfl) ?_
        refine cl_Vi (As := []) (rest := []) ⟨hx, hb, hml, hown, hts⟩ (mt_S_leastBroken l dC dI ad T t_6 (show Iv t_6 from (by refine ⟨?_, ?_, ?_, ?_, ?_, ?_⟩ <;> omega))) (cwV 0 hts (uw_V uw_341 uw_343 uw_3 uw_27 uw_344) rfl rfl rfl (by decide +kernel) ⟨Nat.le_of_ble_eq_true rfl, Nat.le_of_ble_eq_true rfl⟩) (va_recv hK hP (ci := 0) (q0 := 0) rfl rfl) rfl hl.1 rfl (Nat.le_of_ble_eq_true rfl) de_S_broken_23 ⟨Nat.zero_le _, Nat.zero_le _⟩ hK hN hP hD hS hA (fun r_7 _ H locs hw_7 hP hD hS => ?_)
        have hw_7 : r_7 = nI (x_lbn t_6) := hw_7
        subst hw_7
        have : x_lbn t_6 ≤ 1 + t_6.2.2.2 3 := x_lb_le _ _ _
        obtain ⟨t_8, et_8⟩ : ∃ z, z = x_lbt t_6 := ⟨_, rfl⟩
        have hP : va_P (dC, dI) CLS (wS ad T t_8) H := by rw [et_8]; exact hP
        have hD : va_D A (wS ad T t_8) := by rw [et_8]; exact hD
        obtain ⟨_, _, _, _, _, _⟩ : N6p t_8 t_6 := by rw [et_8]; exact nsix (x_lb_N _ _ _)
        refine lv_if_eq (tgt := 31) hx hb de_S_broken_26 (by decide) (fun c_9 => ?_) (fun c_9 => ?_)
        · skip
          have c_9 : (x_lbn t_6) = 0 := (nz0 (by omega)).mp c_9
          refine lv_iinc (v := (nI (i + 1))) (lv' := [(1, .int (nI (i + 1))), (0, .ref (ad 0))]) hx hb de_S_broken_31 hl (k := 1) rfl (nI_1 i) (by decide) rfl (fun ls hl => ?_)
          refine lv_goto (tgt := 6) hx hb de_S_broken_34 (by decide) ?_
          exact ih (i + 1) t_8 (by omega) (by refine ⟨?_, ?_, ?_, ?_, ?_, ?_⟩ <;> omega) (hE1.same (by rw [et_8, x_lb_I, et_6, x_stp_I]) (by omega)) (by rw [← hq, x_br, ← et_6, if_pos c_9, et_8]) H locs ls hP hD hS (lv_sub hl [1, 0] rfl)
        · skip
          have c_9 : ¬ (x_lbn t_6) = 0 := fun z => c_9 ((nz0 (by omega)).mpr z)
          refine lv_iload_n hx hb de_S_broken_29 rfl (lv_at hl 1 rfl) ?_
          have hfin : t_8 = (x_broken t).2 := by
            rw [← hq]
            first | rfl | (rw [x_br, if_neg (by subst_vars; exact c_9)]; subst_vars; rfl)
          rw [hfin] at hP hD
          subst hQ
          have hpost : (nI i) = (x_broken t).1 := by
            rw [← hq]
            first | rfl | (rw [x_br, if_neg (by subst_vars; exact c_9)])
          exact W.iret (v := (nI i)) hx hb hr (fun t9 ht hW => ⟨⟨(nI i), (), rfl, hpost, by rw [ht]; exact hP, va_K.moved hW.alike hK, hD⟩, hS.F ht⟩) hS.2.2 de_S_broken_30
  exact loop_6 (t.2.2.2 4) 0 t_2 (by omega) (nsix rfl) (hE.same (by rw [et_2]; exact x_gath_I t) (by omega)) (by rw [x_broken, et_2]) _ _ ls hP hD hS (lv_sub hl [1, 0] rfl)
set_option maxHeartbeats 4000000 in
set_option maxRecDepth 100000 in
theorem mt_S_count (l : Launch) (dC : Nat → ClassId) (dI : Nat → Nat → Nat) (ad : Nat → Nat) (T : Nat → ClassId) (t : St) (a0 : Int32) (hI : Iv t) (sz : Nat) : Met l yn_S_count (.code yn_S_count cd_S_count 2 (some .int) :: UW) ({ frames := 2, cells := 0, slots := 0, locals := 45 } : Room) (va_Pc [.ref (ad 0), .int a0] (Pw (dC, dI) CLS (TY T) (wS ad T t) sz)) (va_Qi (fun (r : Int32) (_ : Unit) => r = x_cnt a0 t) (Bw (dC, dI) CLS (TY T) (fun _ : Unit => (wS ad T t)) (va_A (wS ad T t) sz)) (va_A (wS ad T t) sz)) 0 0 (va_A (wS ad T t) sz) := by
  refine Met.ofW (cc := cd_S_count) (maxL := 2) (ret := (some .int)) (by decide) rfl ?_
  intro p e s m args below meth c s₁ B hml hv
  obtain ⟨rfl, hsz, hP, hK, hD0, hN⟩ := hv
  have hx := B.exec
  have hb := B.bytes
  have hr := B.returns
  have hts : ∀ w ∈ UW, w.before _ s = true := fun w h => atoms_spec (ws := .code yn_S_count cd_S_count 2 (some .int) :: UW) B.pre w (List.mem_cons_of_mem _ h)
  have hown : s.vm.findClass "StabilitySums" = some m.cls := findClass_of_methodNamed B.named
  have hlocks := B.notSynchronized
  subst hsz
  have hD := hD0.self (sz := s.heap.size)
  generalize hAe : va_A (wS ad T t) s.heap.size = A at hD ⊢
  have hA : ∀ q : Nat, s.heap.size ≤ q → A q := fun q h => by rw [← hAe]; exact Or.inr h
  have hS : va_S A s.heap s.heap [] := va_S.rf
  have hl := lv_entry ([.ref (ad 0), .int a0]) (n := 2) (Nat.le_of_ble_eq_true rfl)
  rw [lg_entry_eq]
  generalize (lg_sl ([.ref (ad 0), .int a0]) ++ List.replicate (2 - (lg_sl ([.ref (ad 0), .int a0])).length) Slot.unset).toArray = ls at hl ⊢
  have hl : lv_has ls 2 [(0, .ref (ad 0)), (1, .int a0)] := hl
  generalize hQ : MQ below _ _ s 0 0 A = Q
  obtain ⟨hI0, hI1, hI2, hI3, hI4, hI5⟩ := hI
  refine lv_iload_n hx hb de_S_count_0 rfl (lv_at hl 1 rfl) ?_
  by_cases c_1_0 : a0 = 0
  · skip
    refine lv_tableIn (tgt := 40) hx hb de_S_count_1 (by rw [c_1_0]; decide) (by rw [c_1_0]; decide) (by rw [c_1_0]; rfl) (by decide) ?_
    refine lv_aload_n hx hb de_S_count_40 rfl (lv_at hl 0 rfl) ?_
    refine va_get (D := (dC, dI)) (ci := 0) (v := .ref (ad 1)) (C := "StabilitySums") (T := TB_S) (N := 10) hx hb hts ui_S hown hK hP 0 rfl rfl 0 (by decide) (hts _ uw_256) (fun _ h9 => h9) rfl de_S_count_41 ?_
    refine va_get (D := (dC, dI)) (ci := 1) (v := .int (nI (t.2.2.2 0))) (C := "StabilitySums$Weights") (T := TB_W) (N := 5) hx hb hts ui_W hown hK hP 1 rfl rfl 4 (by decide) (hts _ uw_68) (fun _ h9 => h9) rfl de_S_count_44 ?_
    subst hQ
    have hpost : (nI (t.2.2.2 0)) = x_cnt a0 t := by
      first | (subst_vars; rfl) | (subst_vars; simp only [x_cnt, c_1_0, ↓reduceIte])
    exact W.iret (v := (nI (t.2.2.2 0))) hx hb hr (fun t9 ht hW => ⟨⟨(nI (t.2.2.2 0)), (), rfl, hpost, by rw [ht]; exact hP, va_K.moved hW.alike hK, hD⟩, hS.F ht⟩) hS.2.2 de_S_count_47
  by_cases c_1_1 : a0 = 1
  · skip
    refine lv_tableIn (tgt := 48) hx hb de_S_count_1 (by rw [c_1_1]; decide) (by rw [c_1_1]; decide) (by rw [c_1_1]; rfl) (by decide) ?_
    refine lv_aload_n hx hb de_S_count_48 rfl (lv_at hl 0 rfl) ?_
    refine va_get (D := (dC, dI)) (ci := 0) (v := .ref (ad 2)) (C := "StabilitySums") (T := TB_S) (N := 10) hx hb hts ui_S hown hK hP 0 rfl rfl 1 (by decide) (hts _ uw_257) (fun _ h9 => h9) rfl de_S_count_49 ?_
    refine va_get (D := (dC, dI)) (ci := 2) (v := .int (nI (t.2.2.2 1))) (C := "StabilitySums$Tanks") (T := TB_T) (N := 9) hx hb hts ui_T hown hK hP 2 rfl rfl 8 (by decide) (hts _ uw_103) (fun _ h9 => h9) rfl de_S_count_52 ?_
    subst hQ
    have hpost : (nI (t.2.2.2 1)) = x_cnt a0 t := by
      first | (subst_vars; rfl) | (subst_vars; simp only [x_cnt, c_1_1, ↓reduceIte])
    exact W.iret (v := (nI (t.2.2.2 1))) hx hb hr (fun t9 ht hW => ⟨⟨(nI (t.2.2.2 1)), (), rfl, hpost, by rw [ht]; exact hP, va_K.moved hW.alike hK, hD⟩, hS.F ht⟩) hS.2.2 de_S_count_55
  by_cases c_1_2 : a0 = 2
  · skip
    refine lv_tableIn (tgt := 56) hx hb de_S_count_1 (by rw [c_1_2]; decide) (by rw [c_1_2]; decide) (by rw [c_1_2]; rfl) (by decide) ?_
    refine lv_aload_n hx hb de_S_count_56 rfl (lv_at hl 0 rfl) ?_
    refine va_get (D := (dC, dI)) (ci := 0) (v := .ref (ad 3)) (C := "StabilitySums") (T := TB_S) (N := 10) hx hb hts ui_S hown hK hP 0 rfl rfl 2 (by decide) (hts _ uw_258) (fun _ h9 => h9) rfl de_S_count_57 ?_
    refine va_get (D := (dC, dI)) (ci := 3) (v := .int (nI (t.2.2.2 2))) (C := "StabilitySums$Table") (T := TB_B) (N := 4) hx hb hts ui_B hown hK hP 3 rfl rfl 3 (by decide) (hts _ uw_135) (fun _ h9 => h9) rfl de_S_count_60 ?_
    subst hQ
    have hpost : (nI (t.2.2.2 2)) = x_cnt a0 t := by
      first | (subst_vars; rfl) | (subst_vars; simp only [x_cnt, c_1_2, ↓reduceIte])
    exact W.iret (v := (nI (t.2.2.2 2))) hx hb hr (fun t9 ht hW => ⟨⟨(nI (t.2.2.2 2)), (), rfl, hpost, by rw [ht]; exact hP, va_K.moved hW.alike hK, hD⟩, hS.F ht⟩) hS.2.2 de_S_count_63
  by_cases c_1_3 : a0 = 3
  · skip
    refine lv_tableIn (tgt := 64) hx hb de_S_count_1 (by rw [c_1_3]; decide) (by rw [c_1_3]; decide) (by rw [c_1_3]; rfl) (by decide) ?_
    refine lv_aload_n hx hb de_S_count_64 rfl (lv_at hl 0 rfl) ?_
    refine va_get (D := (dC, dI)) (ci := 0) (v := .ref (ad 4)) (C := "StabilitySums") (T := TB_S) (N := 10) hx hb hts ui_S hown hK hP 0 rfl rfl 3 (by decide) (hts _ uw_259) (fun _ h9 => h9) rfl de_S_count_65 ?_
    refine va_get (D := (dC, dI)) (ci := 4) (v := .int (nI (t.2.2.2 3))) (C := "StabilitySums$Limits") (T := TB_L) (N := 4) hx hb hts ui_L hown hK hP 4 rfl rfl 3 (by decide) (hts _ uw_156) (fun _ h9 => h9) rfl de_S_count_68 ?_
    subst hQ
    have hpost : (nI (t.2.2.2 3)) = x_cnt a0 t := by
      first | (subst_vars; rfl) | (subst_vars; simp only [x_cnt, c_1_3, ↓reduceIte])
    exact W.iret (v := (nI (t.2.2.2 3))) hx hb hr (fun t9 ht hW => ⟨⟨(nI (t.2.2.2 3)), (), rfl, hpost, by rw [ht]; exact hP, va_K.moved hW.alike hK, hD⟩, hS.F ht⟩) hS.2.2 de_S_count_71
  by_cases c_1_4 : a0 = 4
  · skip
    refine lv_tableIn (tgt := 72) hx hb de_S_count_1 (by rw [c_1_4]; decide) (by rw [c_1_4]; decide) (by rw [c_1_4]; rfl) (by decide) ?_
    refine lv_aload_n hx hb de_S_count_72 rfl (lv_at hl 0 rfl) ?_
    refine va_get (D := (dC, dI)) (ci := 0) (v := .ref (ad 5)) (C := "StabilitySums") (T := TB_S) (N := 10) hx hb hts ui_S hown hK hP 0 rfl rfl 4 (by decide) (hts _ uw_260) (fun _ h9 => h9) rfl de_S_count_73 ?_
    refine va_get (D := (dC, dI)) (ci := 5) (v := .int (nI (t.2.2.2 4))) (C := "StabilitySums$Steps") (T := TB_E) (N := 4) hx hb hts ui_E hown hK hP 5 rfl rfl 3 (by decide) (hts _ uw_180) (fun _ h9 => h9) rfl de_S_count_76 ?_
    subst hQ
    have hpost : (nI (t.2.2.2 4)) = x_cnt a0 t := by
      first | (subst_vars; rfl) | (subst_vars; simp only [x_cnt, c_1_4, ↓reduceIte])
    exact W.iret (v := (nI (t.2.2.2 4))) hx hb hr (fun t9 ht hW => ⟨⟨(nI (t.2.2.2 4)), (), rfl, hpost, by rw [ht]; exact hP, va_K.moved hW.alike hK, hD⟩, hS.F ht⟩) hS.2.2 de_S_count_79
  by_cases c_1_5 : a0 = 5
  · skip
    refine lv_tableIn (tgt := 80) hx hb de_S_count_1 (by rw [c_1_5]; decide) (by rw [c_1_5]; decide) (by rw [c_1_5]; rfl) (by decide) ?_
    refine lv_aload_n hx hb de_S_count_80 rfl (lv_at hl 0 rfl) ?_
    refine va_get (D := (dC, dI)) (ci := 0) (v := .ref (ad 2)) (C := "StabilitySums") (T := TB_S) (N := 10) hx hb hts ui_S hown hK hP 0 rfl rfl 1 (by decide) (hts _ uw_257) (fun _ h9 => h9) rfl de_S_count_81 ?_
    refine cl_Vi (As := []) (rest := []) ⟨hx, hb, hml, hown, hts⟩ (mt_T_countSlack l dC dI ad T t (show t.2.2.2 1 ≤ 4 from by omega)) (cwV 0 hts (uw_V uw_431 uw_432 uw_433 uw_29 uw_434) rfl rfl rfl (by decide +kernel) ⟨Nat.le_of_ble_eq_true rfl, Nat.le_of_ble_eq_true rfl⟩) (va_recv hK hP (ci := 2) (q0 := 2) rfl rfl) rfl hl.1 rfl (Nat.le_of_ble_eq_true rfl) de_S_count_84 ⟨Nat.zero_le _, Nat.zero_le _⟩ hK hN hP hD hS hA (fun r_2 _ H locs hw_2 hP hD hS => ?_)
    have hw_2 : r_2 = nI (x_cs t (t.2.2.2 1) 0 0) := hw_2
    subst hw_2
    subst hQ
    have hpost : (nI (x_cs t (t.2.2.2 1) 0 0)) = x_cnt a0 t := by
      first | (subst_vars; rfl) | (subst_vars; simp only [x_cnt, c_1_5, ↓reduceIte])
    exact W.iret (v := (nI (x_cs t (t.2.2.2 1) 0 0))) hx hb hr (fun t9 ht hW => ⟨⟨(nI (x_cs t (t.2.2.2 1) 0 0)), (), rfl, hpost, by rw [ht]; exact hP, va_K.moved hW.alike hK, hD⟩, hS.F ht⟩) hS.2.2 de_S_count_87
  have c_1_o : a0.toInt < 0 ∨ 5 < a0.toInt := sw_out0_5 c_1_0 c_1_1 c_1_2 c_1_3 c_1_4 c_1_5
  refine lv_tableOut (tgt := 88) hx hb de_S_count_1 c_1_o (by decide) ?_
  refine lv_iconst (v := (-1)) hx hb de_S_count_88 (by decide) ?_
  subst hQ
  have hpost : (-1) = x_cnt a0 t := by
    first | (subst_vars; rfl) | (subst_vars; simp only [x_cnt, c_1_0, c_1_1, c_1_2, c_1_3, c_1_4, c_1_5, ↓reduceIte])
  exact W.iret (v := (-1)) hx hb hr (fun t9 ht hW => ⟨⟨(-1), (), rfl, hpost, by rw [ht]; exact hP, va_K.moved hW.alike hK, hD⟩, hS.F ht⟩) hS.2.2 de_S_count_89
