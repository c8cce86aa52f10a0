set_option maxHeartbeats 4000000 in
set_option maxRecDepth 100000 in
theorem mt_M_thrown (l : Launch) (dC : Nat → ClassId) (dI : Nat → Nat → Nat) (ad : Nat → Nat) (T : Nat → ClassId) (t : St)   (sz : Nat) : Met l yn_M_thrown (.code yn_M_thrown cd_M_thrown 1 (some .int) :: UW) ({ frames := 0, cells := 0, slots := 0, locals := 0 } : Room) (va_Pc [.ref (ad 0)] (Pw (dC, dI) CLS (TY T) (wM ad T t) sz)) (va_Qi (fun (r : Int32) (_ : Unit) => r = nI (t.2.2.2 0)) (Bw (dC, dI) CLS (TY T) (fun _ : Unit => (wM ad T t)) (va_A (wM ad T t) sz)) (va_A (wM ad T t) sz)) 0 0 (va_A (wM ad T t) sz) := by
  refine Met.ofW (cc := cd_M_thrown) (maxL := 1) (ret := (some .int)) (by decide) rfl ?_
  intro p e s m args below meth c s₁ B hml hv
  obtain ⟨rfl, hsz, hP, hK, hD0, hN⟩ := hv
  have hx := B.exec
  have hb := B.bytes
  have hr := B.returns
  have hts : ∀ w ∈ UW, w.before _ s = true := fun w h => atoms_spec (ws := .code yn_M_thrown cd_M_thrown 1 (some .int) :: UW) B.pre w (List.mem_cons_of_mem _ h)
  have hown : s.vm.findClass "StabilitySumsModel" = some m.cls := findClass_of_methodNamed B.named
  have hlocks := B.notSynchronized
  subst hsz
  have hD := hD0.self (sz := s.heap.size)
  generalize hAe : va_A (wM ad T t) s.heap.size = A at hD ⊢
  have hA : ∀ q : Nat, s.heap.size ≤ q → A q := fun q h => by rw [← hAe]; exact Or.inr h
  have hS : va_S A s.heap s.heap [] := va_S.rf
  have hl := lv_entry ([.ref (ad 0)]) (n := 1) (Nat.le_of_ble_eq_true rfl)
  rw [lg_entry_eq]
  generalize (lg_sl ([.ref (ad 0)]) ++ List.replicate (1 - (lg_sl ([.ref (ad 0)])).length) Slot.unset).toArray = ls at hl ⊢
  have hl : lv_has ls 1 [(0, .ref (ad 0))] := hl
  generalize hQ : MQ below _ _ s 0 0 A = Q
  refine lv_aload_n hx hb de_M_thrown_0 rfl (lv_at hl 0 rfl) ?_
  refine va_get (D := (dC, dI)) (ci := 9) (v := .int (nI (t.2.2.2 0))) (C := "StabilitySumsModel") (T := TB_M) (N := 33) hx hb hts ui_M hown hK hP 0 rfl rfl 0 (by decide) (hts _ uw_696) (fun _ h9 => h9) rfl de_M_thrown_1 ?_
  subst hQ
  have hpost : ((nI (t.2.2.2 0)) : Int32) = nI (t.2.2.2 0) := by
    rfl
  exact W.iret (v := (nI (t.2.2.2 0))) hx hb hr (fun t9 ht hW => ⟨⟨(nI (t.2.2.2 0)), (), rfl, hpost, by rw [ht]; exact hP, va_K.moved hW.alike hK, hD⟩, hS.F ht⟩) hS.2.2 de_M_thrown_4
set_option maxHeartbeats 4000000 in
set_option maxRecDepth 100000 in
theorem mt_M_fails (l : Launch) (dC : Nat → ClassId) (dI : Nat → Nat → Nat) (ad : Nat → Nat) (T : Nat → ClassId) (t : St) (a0 : Nat)  (sz : Nat) : Met l yn_M_fails (.code yn_M_fails cd_M_fails 2 (some .int) :: UW) ({ frames := 0, cells := 0, slots := 0, locals := 0 } : Room) (va_Pc [.ref (ad 0), .int (nI a0)] (Pw (dC, dI) CLS (TY T) (wM ad T t) sz)) (va_Qi (fun (r : Int32) (_ : Unit) => r = 0) (Bw (dC, dI) CLS (TY T) (fun _ : Unit => (wM ad T (sN t 0 a0))) (va_A (wM ad T t) sz)) (va_A (wM ad T t) sz)) 0 0 (va_A (wM ad T t) sz) := by
  refine Met.ofW (cc := cd_M_fails) (maxL := 2) (ret := (some .int)) (by decide) rfl ?_
  intro p e s m args below meth c s₁ B hml hv
  obtain ⟨rfl, hsz, hP, hK, hD0, hN⟩ := hv
  have hx := B.exec
  have hb := B.bytes
  have hr := B.returns
  have hts : ∀ w ∈ UW, w.before _ s = true := fun w h => atoms_spec (ws := .code yn_M_fails cd_M_fails 2 (some .int) :: UW) B.pre w (List.mem_cons_of_mem _ h)
  have hown : s.vm.findClass "StabilitySumsModel" = some m.cls := findClass_of_methodNamed B.named
  have hlocks := B.notSynchronized
  subst hsz
  have hD := hD0.self (sz := s.heap.size)
  generalize hAe : va_A (wM ad T t) s.heap.size = A at hD ⊢
  have hA : ∀ q : Nat, s.heap.size ≤ q → A q := fun q h => by rw [← hAe]; exact Or.inr h
  have hS : va_S A s.heap s.heap [] := va_S.rf
  have hl := lv_entry ([.ref (ad 0), .int (nI a0)]) (n := 2) (Nat.le_of_ble_eq_true rfl)
  rw [lg_entry_eq]
  generalize (lg_sl ([.ref (ad 0), .int (nI a0)]) ++ List.replicate (2 - (lg_sl ([.ref (ad 0), .int (nI a0)])).length) Slot.unset).toArray = ls at hl ⊢
  have hl : lv_has ls 2 [(0, .ref (ad 0)), (1, .int (nI a0))] := hl
  generalize hQ : MQ below _ _ s 0 0 A = Q
  refine lv_aload_n hx hb de_M_fails_0 rfl (lv_at hl 0 rfl) ?_
  refine lv_iload_n hx hb de_M_fails_1 rfl (lv_at hl 1 rfl) ?_
  refine va_put (D := (dC, dI)) (ci := 9) (v := .int (nI a0)) (ty := .int) (C := "StabilitySumsModel") (T := TB_M) (N := 33) hx hb hts ui_M tt_M tk_M nm_M hown hK hP hD hS 0 rfl rfl 0 (by decide) (hts _ uw_696) (fun _ h9 => h9) rfl (by decide +kernel) rfl rfl (Nat.le_of_ble_eq_true rfl) de_M_fails_2 (fun H locs hP hD hS => ?_)
  have hP : va_P (dC, dI) CLS (wM ad T (sN t 0 a0)) H := hP
  have hD : va_D A (wM ad T (sN t 0 a0)) := hD
  refine lv_iconst (v := 0) hx hb de_M_fails_5 (by decide) ?_
  have hfin : (sN t 0 a0) = sN t 0 a0 := by
    rfl
  rw [hfin] at hP hD
  subst hQ
  have hpost : (0 : Int32) = 0 := by
    rfl
  exact W.iret (v := 0) hx hb hr (fun t9 ht hW => ⟨⟨0, (), rfl, hpost, by rw [ht]; exact hP, va_K.moved hW.alike hK, hD⟩, hS.F ht⟩) hS.2.2 de_M_fails_6
set_option maxHeartbeats 4000000 in
set_option maxRecDepth 100000 in
theorem mt_M_in (l : Launch) (dC : Nat → ClassId) (dI : Nat → Nat → Nat) (ad : Nat → Nat) (T : Nat → ClassId) (t : St) (a0 : Int64) (a1 : Int64) (a2 : Int64)  (sz : Nat) : Met l yn_M_in (.code yn_M_in cd_M_in 6 (some .boolean) :: UW) ({ frames := 0, cells := 0, slots := 0, locals := 0 } : Room) (va_Pc [.long a0, .long a1, .long a2] (Pw (dC, dI) CLS (TY T) (wM ad T t) sz)) (va_Qi (fun (r : Int32) (_ : Unit) => bz r (x_in a0 a1 a2)) (Bw (dC, dI) CLS (TY T) (fun _ : Unit => (wM ad T t)) (va_A (wM ad T t) sz)) (va_A (wM ad T t) sz)) 0 0 (va_A (wM ad T t) sz) := by
  refine Met.ofW (cc := cd_M_in) (maxL := 6) (ret := (some .boolean)) (by decide) rfl ?_
  intro p e s m args below meth c s₁ B hml hv
  obtain ⟨rfl, hsz, hP, hK, hD0, hN⟩ := hv
  have hx := B.exec
  have hb := B.bytes
  have hr := B.returns
  have hts : ∀ w ∈ UW, w.before _ s = true := fun w h => atoms_spec (ws := .code yn_M_in cd_M_in 6 (some .boolean) :: UW) B.pre w (List.mem_cons_of_mem _ h)
  have hown : s.vm.findClass "StabilitySumsModel" = some m.cls := findClass_of_methodNamed B.named
  have hlocks := B.notSynchronized
  subst hsz
  have hD := hD0.self (sz := s.heap.size)
  generalize hAe : va_A (wM ad T t) s.heap.size = A at hD ⊢
  have hA : ∀ q : Nat, s.heap.size ≤ q → A q := fun q h => by rw [← hAe]; exact Or.inr h
  have hS : va_S A s.heap s.heap [] := va_S.rf
  have hl := lv_entry ([.long a0, .long a1, .long a2]) (n := 6) (Nat.le_of_ble_eq_true rfl)
  rw [lg_entry_eq]
  generalize (lg_sl ([.long a0, .long a1, .long a2]) ++ List.replicate (6 - (lg_sl ([.long a0, .long a1, .long a2])).length) Slot.unset).toArray = ls at hl ⊢
  have hl : lv_has ls 6 [(0, .long a0), (2, .long a1), (4, .long a2)] := hl
  generalize hQ : MQ below _ _ s 0 0 A = Q
  refine lv_lload_n hx hb de_M_in_0 rfl (lv_at hl 0 rfl) ?_
  refine lv_lload_n hx hb de_M_in_1 rfl (lv_at hl 1 rfl) ?_
  refine rw_lt (tgt := 17) hx hb de_M_in_2 de_M_in_3 (by decide) (fun c_1 => ?_) (fun c_1 => ?_)
  · skip
    refine lv_iconst (v := 0) hx hb de_M_in_17 (by decide) ?_
    subst hQ
    have hpost : bz 0 (x_in a0 a1 a2) := by
      first | exact Or.inl ⟨rfl, by simp only [x_in, Int64.lt_iff_toInt_lt, Int64.le_iff_toInt_le] at *; omega⟩ | exact Or.inr ⟨rfl, by simp only [x_in, Int64.lt_iff_toInt_lt, Int64.le_iff_toInt_le] at *; omega⟩
    exact W.zret (v := 0) hx hb hr (bz_nar hpost) (fun t9 ht hW => ⟨⟨0, (), rfl, hpost, by rw [ht]; exact hP, va_K.moved hW.alike hK, hD⟩, hS.F ht⟩) hS.2.2 de_M_in_18
  · skip
    refine lv_lload_n hx hb de_M_in_6 rfl (lv_at hl 0 rfl) ?_
    refine lv_lload hx hb de_M_in_7 (lv_at hl 2 rfl) ?_
    refine rw_gt (tgt := 17) hx hb de_M_in_9 de_M_in_10 (by decide) (fun c_2 => ?_) (fun c_2 => ?_)
    · skip
      refine lv_iconst (v := 0) hx hb de_M_in_17 (by decide) ?_
      subst hQ
      have hpost : bz 0 (x_in a0 a1 a2) := by
        first | exact Or.inl ⟨rfl, by simp only [x_in, Int64.lt_iff_toInt_lt, Int64.le_iff_toInt_le] at *; omega⟩ | exact Or.inr ⟨rfl, by simp only [x_in, Int64.lt_iff_toInt_lt, Int64.le_iff_toInt_le] at *; omega⟩
      exact W.zret (v := 0) hx hb hr (bz_nar hpost) (fun t9 ht hW => ⟨⟨0, (), rfl, hpost, by rw [ht]; exact hP, va_K.moved hW.alike hK, hD⟩, hS.F ht⟩) hS.2.2 de_M_in_18
    · skip
      refine lv_iconst (v := 1) hx hb de_M_in_13 (by decide) ?_
      refine lv_goto (tgt := 18) hx hb de_M_in_14 (by decide) ?_
      subst hQ
      have hpost : bz 1 (x_in a0 a1 a2) := by
        first | exact Or.inl ⟨rfl, by simp only [x_in, Int64.lt_iff_toInt_lt, Int64.le_iff_toInt_le] at *; omega⟩ | exact Or.inr ⟨rfl, by simp only [x_in, Int64.lt_iff_toInt_lt, Int64.le_iff_toInt_le] at *; omega⟩
      exact W.zret (v := 1) hx hb hr (bz_nar hpost) (fun t9 ht hW => ⟨⟨1, (), rfl, hpost, by rw [ht]; exact hP, va_K.moved hW.alike hK, hD⟩, hS.F ht⟩) hS.2.2 de_M_in_18
set_option maxHeartbeats 4000000 in
set_option maxRecDepth 100000 in
theorem mt_M_isPlace (l : Launch) (dC : Nat → ClassId) (dI : Nat → Nat → Nat) (ad : Nat → Nat) (T : Nat → ClassId) (t : St) (a0 : Int64)  (sz : Nat) : Met l yn_M_isPlace (.code yn_M_isPlace cd_M_isPlace 2 (some .boolean) :: UW) ({ frames := 1, cells := 0, slots := 0, locals := 25 } : Room) (va_Pc [.long a0] (Pw (dC, dI) CLS (TY T) (wM ad T t) sz)) (va_Qi (fun (r : Int32) (_ : Unit) => bz r (x_pl a0)) (Bw (dC, dI) CLS (TY T) (fun _ : Unit => (wM ad T t)) (va_A (wM ad T t) sz)) (va_A (wM ad T t) sz)) 0 0 (va_A (wM ad T t) sz) := by
  refine Met.ofW (cc := cd_M_isPlace) (maxL := 2) (ret := (some .boolean)) (by decide) rfl ?_
  intro p e s m args below meth c s₁ B hml hv
  obtain ⟨rfl, hsz, hP, hK, hD0, hN⟩ := hv
  have hx := B.exec
  have hb := B.bytes
  have hr := B.returns
  have hts : ∀ w ∈ UW, w.before _ s = true := fun w h => atoms_spec (ws := .code yn_M_isPlace cd_M_isPlace 2 (some .boolean) :: UW) B.pre w (List.mem_cons_of_mem _ h)
  have hown : s.vm.findClass "StabilitySumsModel" = some m.cls := findClass_of_methodNamed B.named
  have hlocks := B.notSynchronized
  subst hsz
  have hD := hD0.self (sz := s.heap.size)
  generalize hAe : va_A (wM ad T t) s.heap.size = A at hD ⊢
  have hA : ∀ q : Nat, s.heap.size ≤ q → A q := fun q h => by rw [← hAe]; exact Or.inr h
  have hS : va_S A s.heap s.heap [] := va_S.rf
  have hl := lv_entry ([.long a0]) (n := 2) (Nat.le_of_ble_eq_true rfl)
  rw [lg_entry_eq]
  generalize (lg_sl ([.long a0]) ++ List.replicate (2 - (lg_sl ([.long a0])).length) Slot.unset).toArray = ls at hl ⊢
  have hl : lv_has ls 2 [(0, .long a0)] := hl
  generalize hQ : MQ below _ _ s 0 0 A = Q
  refine lv_lload_n hx hb de_M_isPlace_0 rfl (lv_at hl 0 rfl) ?_
  refine lv_ldc2 (v := (-10000)) hx hb hown (hts _ uw_841) de_M_isPlace_1 ?_
  refine lv_ldc2 (v := 10000) hx hb hown (hts _ uw_695) de_M_isPlace_4 ?_
  refine cl_Si (As := [.long a0, .long (-10000), .long 10000]) (rest := []) ⟨hx, hb, hml, hown, hts⟩ (mt_M_in l dC dI ad T t a0 (-10000) 10000) (va_cwS 3 hts (uw_S uw_842 uw_843 uw_36 uw_844) rfl rfl rfl (by decide +kernel) ⟨Nat.le_of_ble_eq_true rfl, Nat.le_of_ble_eq_true rfl⟩) rfl hl.1 rfl (Nat.le_of_ble_eq_true rfl) de_M_isPlace_7 ⟨Nat.zero_le _, Nat.zero_le _⟩ hK hN hP hD hS hA (fun r_1 _ H locs hw_1 hP hD hS => ?_)
  have hw_1 : bz r_1 (x_in a0 (-10000) 10000) := hw_1
  subst hQ
  have hpost : bz r_1 (x_pl a0) := by
    exact hw_1
  exact W.zret (v := r_1) hx hb hr (bz_nar hpost) (fun t9 ht hW => ⟨⟨r_1, (), rfl, hpost, by rw [ht]; exact hP, va_K.moved hW.alike hK, hD⟩, hS.F ht⟩) hS.2.2 de_M_isPlace_10
set_option maxHeartbeats 4000000 in
set_option maxRecDepth 100000 in
theorem mt_M_floor (l : Launch) (dC : Nat → ClassId) (dI : Nat → Nat → Nat) (ad : Nat → Nat) (T : Nat → ClassId) (t : St) (a0 : Int64) (a1 : Int64) (h1 : ¬ a1 = 0) (sz : Nat) : Met l yn_M_floor (.code yn_M_floor cd_M_floor 6 (some .long) :: UW) ({ frames := 0, cells := 0, slots := 0, locals := 0 } : Room) (va_Pc [.long a0, .long a1] (Pw (dC, dI) CLS (TY T) (wM ad T t) sz)) (va_Ql (fun (r : Int64) (_ : Unit) => r = y_fl a0 a1) (Bw (dC, dI) CLS (TY T) (fun _ : Unit => (wM ad T t)) (va_A (wM ad T t) sz)) (va_A (wM ad T t) sz)) 0 0 (va_A (wM ad T t) sz) := by
  refine Met.ofW (cc := cd_M_floor) (maxL := 6) (ret := (some .long)) (by decide) rfl ?_
  intro p e s m args below meth c s₁ B hml hv
  obtain ⟨rfl, hsz, hP, hK, hD0, hN⟩ := hv
  have hx := B.exec
  have hb := B.bytes
  have hr := B.returns
  have hts : ∀ w ∈ UW, w.before _ s = true := fun w h => atoms_spec (ws := .code yn_M_floor cd_M_floor 6 (some .long) :: UW) B.pre w (List.mem_cons_of_mem _ h)
  have hown : s.vm.findClass "StabilitySumsModel" = some m.cls := findClass_of_methodNamed B.named
  have hlocks := B.notSynchronized
  subst hsz
  have hD := hD0.self (sz := s.heap.size)
  generalize hAe : va_A (wM ad T t) s.heap.size = A at hD ⊢
  have hA : ∀ q : Nat, s.heap.size ≤ q → A q := fun q h => by rw [← hAe]; exact Or.inr h
  have hS : va_S A s.heap s.heap [] := va_S.rf
  have hl := lv_entry ([.long a0, .long a1]) (n := 6) (Nat.le_of_ble_eq_true rfl)
  rw [lg_entry_eq]
  generalize (lg_sl ([.long a0, .long a1]) ++ List.replicate (6 - (lg_sl ([.long a0, .long a1])).length) Slot.unset).toArray = ls at hl ⊢
  have hl : lv_has ls 6 [(0, .long a0), (2, .long a1)] := hl
  generalize hQ : MQ below _ _ s 0 0 A = Q
  refine lv_lload_n hx hb de_M_floor_0 rfl (lv_at hl 0 rfl) ?_
  refine lv_lload_n hx hb de_M_floor_1 rfl (lv_at hl 1 rfl) ?_
  refine lv_ldiv hx hb de_M_floor_2 h1 ?_
  refine lv_topl (fun v_1 ev_1 => ?_)
  have ev_1 : v_1 = a0 / a1 := ev_1
  refine lv_lstore (lv' := [(4, .long v_1), (0, .long a0), (2, .long a1)]) hx hb de_M_floor_3 hl (by decide) rfl (fun ls hl => ?_)
  refine lv_lload_n hx hb de_M_floor_5 rfl (lv_at hl 1 rfl) ?_
  refine lv_lload_n hx hb de_M_floor_6 rfl (lv_at hl 2 rfl) ?_
  refine lv_lrem hx hb de_M_floor_7 h1 ?_
  refine lv_topl (fun v_2 ev_2 => ?_)
  have ev_2 : v_2 = a0 - a0 / a1 * a1 := ev_2
  refine lv_lconst (v := 0) hx hb de_M_floor_8 (by decide) ?_
  refine rw_eq (tgt := 45) hx hb de_M_floor_9 de_M_floor_10 (by decide) (fun c_3 => ?_) (fun c_3 => ?_)
  · skip
    refine lv_lload hx hb de_M_floor_45 (lv_at hl 0 rfl) ?_
    subst hQ
    have hpost : (v_1 : Int64) = y_fl a0 a1 := by
      subst_vars; unfold y_fl; simp only [c_3, ↓reduceIte] <;> simp_all
    exact W.lret (v := v_1) hx hb hr (fun t9 ht hW => ⟨⟨v_1, (), rfl, hpost, by rw [ht]; exact hP, va_K.moved hW.alike hK, hD⟩, hS.F ht⟩) hS.2.2 de_M_floor_47
  · skip
    refine lv_lload_n hx hb de_M_floor_13 rfl (lv_at hl 1 rfl) ?_
    refine lv_lconst (v := 0) hx hb de_M_floor_14 (by decide) ?_
    refine rw_ge (tgt := 23) hx hb de_M_floor_15 de_M_floor_16 (by decide) (fun c_4 => ?_) (fun c_4 => ?_)
    · skip
      refine lv_iconst (v := 0) hx hb de_M_floor_23 (by decide) ?_
      refine lv_lload_n hx hb de_M_floor_24 rfl (lv_at hl 2 rfl) ?_
      refine lv_lconst (v := 0) hx hb de_M_floor_25 (by decide) ?_
      refine rw_ge (tgt := 34) hx hb de_M_floor_26 de_M_floor_27 (by decide) (fun c_5 => ?_) (fun c_5 => ?_)
      · skip
        refine lv_iconst (v := 0) hx hb de_M_floor_34 (by decide) ?_
        refine lv_icmp_eq (tgt := 45) hx hb de_M_floor_35 (by decide) (fun c_6 => ?_) (fun c_6 => ?_)
        · skip
          refine lv_lload hx hb de_M_floor_45 (lv_at hl 0 rfl) ?_
          subst hQ
          have hpost : (v_1 : Int64) = y_fl a0 a1 := by
            subst_vars; unfold y_fl; simp only [c_3, c_4, c_5, c_6, ↓reduceIte] <;> simp_all
          exact W.lret (v := v_1) hx hb hr (fun t9 ht hW => ⟨⟨v_1, (), rfl, hpost, by rw [ht]; exact hP, va_K.moved hW.alike hK, hD⟩, hS.F ht⟩) hS.2.2 de_M_floor_47
        · skip
          refine lv_lload hx hb de_M_floor_38 (lv_at hl 0 rfl) ?_
          refine lv_lconst (v := 1) hx hb de_M_floor_40 (by decide) ?_
          refine lv_lsub hx hb de_M_floor_41 ?_
          refine lv_topl (fun v_7 ev_7 => ?_)
          have ev_7 : v_7 = v_1 - 1 := ev_7
          refine lv_goto (tgt := 47) hx hb de_M_floor_42 (by decide) ?_
          subst hQ
          have hpost : (v_7 : Int64) = y_fl a0 a1 := by
            subst_vars; unfold y_fl; simp only [c_3, c_4, c_5, c_6, ↓reduceIte] <;> simp_all
          exact W.lret (v := v_7) hx hb hr (fun t9 ht hW => ⟨⟨v_7, (), rfl, hpost, by rw [ht]; exact hP, va_K.moved hW.alike hK, hD⟩, hS.F ht⟩) hS.2.2 de_M_floor_47
      · skip
        refine lv_iconst (v := 1) hx hb de_M_floor_30 (by decide) ?_
        refine lv_goto (tgt := 35) hx hb de_M_floor_31 (by decide) ?_
        refine lv_icmp_eq (tgt := 45) hx hb de_M_floor_35 (by decide) (fun c_8 => ?_) (fun c_8 => ?_)
        · skip
          refine lv_lload hx hb de_M_floor_45 (lv_at hl 0 rfl) ?_
          subst hQ
          have hpost : (v_1 : Int64) = y_fl a0 a1 := by
            subst_vars; unfold y_fl; simp only [c_3, c_4, c_5, c_8, ↓reduceIte] <;> simp_all
          exact W.lret (v := v_1) hx hb hr (fun t9 ht hW => ⟨⟨v_1, (), rfl, hpost, by rw [ht]; exact hP, va_K.moved hW.alike hK, hD⟩, hS.F ht⟩) hS.2.2 de_M_floor_47
        · skip
          refine lv_lload hx hb de_M_floor_38 (lv_at hl 0 rfl) ?_
          refine lv_lconst (v := 1) hx hb de_M_floor_40 (by decide) ?_
          refine lv_lsub hx hb de_M_floor_41 ?_
          refine lv_topl (fun v_9 ev_9 => ?_)
          have ev_9 : v_9 = v_1 - 1 := ev_9
          refine lv_goto (tgt := 47) hx hb de_M_floor_42 (by decide) ?_
          subst hQ
          have hpost : (v_9 : Int64) = y_fl a0 a1 := by
            subst_vars; unfold y_fl; simp only [c_3, c_4, c_5, c_8, ↓reduceIte] <;> simp_all
          exact W.lret (v := v_9) hx hb hr (fun t9 ht hW => ⟨⟨v_9, (), rfl, hpost, by rw [ht]; exact hP, va_K.moved hW.alike hK, hD⟩, hS.F ht⟩) hS.2.2 de_M_floor_47
    · skip
      refine lv_iconst (v := 1) hx hb de_M_floor_19 (by decide) ?_
      refine lv_goto (tgt := 24) hx hb de_M_floor_20 (by decide) ?_
      refine lv_lload_n hx hb de_M_floor_24 rfl (lv_at hl 2 rfl) ?_
      refine lv_lconst (v := 0) hx hb de_M_floor_25 (by decide) ?_
      refine rw_ge (tgt := 34) hx hb de_M_floor_26 de_M_floor_27 (by decide) (fun c_10 => ?_) (fun c_10 => ?_)
      · skip
        refine lv_iconst (v := 0) hx hb de_M_floor_34 (by decide) ?_
        refine lv_icmp_eq (tgt := 45) hx hb de_M_floor_35 (by decide) (fun c_11 => ?_) (fun c_11 => ?_)
        · skip
          refine lv_lload hx hb de_M_floor_45 (lv_at hl 0 rfl) ?_
          subst hQ
          have hpost : (v_1 : Int64) = y_fl a0 a1 := by
            subst_vars; unfold y_fl; simp only [c_3, c_4, c_10, c_11, ↓reduceIte] <;> simp_all
          exact W.lret (v := v_1) hx hb hr (fun t9 ht hW => ⟨⟨v_1, (), rfl, hpost, by rw [ht]; exact hP, va_K.moved hW.alike hK, hD⟩, hS.F ht⟩) hS.2.2 de_M_floor_47
        · skip
          refine lv_lload hx hb de_M_floor_38 (lv_at hl 0 rfl) ?_
          refine lv_lconst (v := 1) hx hb de_M_floor_40 (by decide) ?_
          refine lv_lsub hx hb de_M_floor_41 ?_
          refine lv_topl (fun v_12 ev_12 => ?_)
          have ev_12 : v_12 = v_1 - 1 := ev_12
          refine lv_goto (tgt := 47) hx hb de_M_floor_42 (by decide) ?_
          subst hQ
          have hpost : (v_12 : Int64) = y_fl a0 a1 := by
            subst_vars; unfold y_fl; simp only [c_3, c_4, c_10, c_11, ↓reduceIte] <;> simp_all
          exact W.lret (v := v_12) hx hb hr (fun t9 ht hW => ⟨⟨v_12, (), rfl, hpost, by rw [ht]; exact hP, va_K.moved hW.alike hK, hD⟩, hS.F ht⟩) hS.2.2 de_M_floor_47
      · skip
        refine lv_iconst (v := 1) hx hb de_M_floor_30 (by decide) ?_
        refine lv_goto (tgt := 35) hx hb de_M_floor_31 (by decide) ?_
        refine lv_icmp_eq (tgt := 45) hx hb de_M_floor_35 (by decide) (fun c_13 => ?_) (fun c_13 => ?_)
        · skip
          refine lv_lload hx hb de_M_floor_45 (lv_at hl 0 rfl) ?_
          subst hQ
          have hpost : (v_1 : Int64) = y_fl a0 a1 := by
            subst_vars; unfold y_fl; simp only [c_3, c_4, c_10, c_13, ↓reduceIte] <;> simp_all
          exact W.lret (v := v_1) hx hb hr (fun t9 ht hW => ⟨⟨v_1, (), rfl, hpost, by rw [ht]; exact hP, va_K.moved hW.alike hK, hD⟩, hS.F ht⟩) hS.2.2 de_M_floor_47
        · skip
          refine lv_lload hx hb de_M_floor_38 (lv_at hl 0 rfl) ?_
          refine lv_lconst (v := 1) hx hb de_M_floor_40 (by decide) ?_
          refine lv_lsub hx hb de_M_floor_41 ?_
          refine lv_topl (fun v_14 ev_14 => ?_)
          have ev_14 : v_14 = v_1 - 1 := ev_14
          refine lv_goto (tgt := 47) hx hb de_M_floor_42 (by decide) ?_
          subst hQ
          have hpost : (v_14 : Int64) = y_fl a0 a1 := by
            subst_vars; unfold y_fl; simp only [c_3, c_4, c_10, c_13, ↓reduceIte] <;> simp_all
          exact W.lret (v := v_14) hx hb hr (fun t9 ht hW => ⟨⟨v_14, (), rfl, hpost, by rw [ht]; exact hP, va_K.moved hW.alike hK, hD⟩, hS.F ht⟩) hS.2.2 de_M_floor_47
set_option maxHeartbeats 4000000 in
set_option maxRecDepth 100000 in
theorem mt_M_present (l : Launch) (dC : Nat → ClassId) (dI : Nat → Nat → Nat) (ad : Nat → Nat) (T : Nat → ClassId) (t : St)  (hI : IvM t) (sz : Nat) : Met l yn_M_present (.code yn_M_present cd_M_present 2 none :: UW) ({ frames := 0, cells := 0, slots := 0, locals := 0 } : Room) (va_Pc [.ref (ad 0)] (Pw (dC, dI) CLS (TY T) (wM ad T t) sz)) (va_Qv (fun _ : Unit => True) (Bw (dC, dI) CLS (TY T) (fun _ : Unit => (wM ad T (y_pre t))) (va_A (wM ad T t) sz)) (va_A (wM ad T t) sz)) 0 0 (va_A (wM ad T t) sz) := by
  refine Met.ofW (cc := cd_M_present) (maxL := 2) (ret := none) (by decide) rfl ?_
  intro p e s m args below meth c s₁ B hml hv
  obtain ⟨rfl, hsz, hP, hK, hD0, hN⟩ := hv
  have hx := B.exec
  have hb := B.bytes
  have hr := B.returns
  have hts : ∀ w ∈ UW, w.before _ s = true := fun w h => atoms_spec (ws := .code yn_M_present cd_M_present 2 none :: UW) B.pre w (List.mem_cons_of_mem _ h)
  have hown : s.vm.findClass "StabilitySumsModel" = some m.cls := findClass_of_methodNamed B.named
  have hlocks := B.notSynchronized
  subst hsz
  have hD := hD0.self (sz := s.heap.size)
  generalize hAe : va_A (wM ad T t) s.heap.size = A at hD ⊢
  have hA : ∀ q : Nat, s.heap.size ≤ q → A q := fun q h => by rw [← hAe]; exact Or.inr h
  have hS : va_S A s.heap s.heap [] := va_S.rf
  have hl := lv_entry ([.ref (ad 0)]) (n := 2) (Nat.le_of_ble_eq_true rfl)
  rw [lg_entry_eq]
  generalize (lg_sl ([.ref (ad 0)]) ++ List.replicate (2 - (lg_sl ([.ref (ad 0)])).length) Slot.unset).toArray = ls at hl ⊢
  have hl : lv_has ls 2 [(0, .ref (ad 0))] := hl
  generalize hQ : MQ below _ _ s 0 0 A = Q
  obtain ⟨hI1, hI2, hI3, hI4, hI5⟩ := hI
  refine lv_iconst (v := 0) hx hb de_M_present_0 (by decide) ?_
  refine lv_istore_n (lv' := [(1, .int 0), (0, .ref (ad 0))]) hx hb de_M_present_1 rfl hl (by decide) rfl (fun ls hl => ?_)
  have loop_2 : ∀ (n : Nat) (i : Nat) (t1 : St), (i + n = t.2.2.2 1) → (N6p t1 t) → (y_pw n i t1 = y_pw (t.2.2.2 1) 0 t) → ∀ (H : Heap) (locs : List Loc) (ls : Array Slot), va_P (dC, dI) CLS (wM ad T t1) H → va_D A (wM ad T t1) → va_S A s.heap H locs → lv_has ls 2 [(0, .ref (ad 0)), (1, .int (nI i))] → W p l e (headSpec (.code yn_M_present cd_M_present 2 none :: UW) ({ frames := 0, cells := 0, slots := 0, locals := 0 } : Room)).room s m ([.ref (ad 0)] : List Value).toArray below meth c H locs 0 0 Q (F0 m 2 ls []) := by
    intro n
    induction n with
    | zero =>
      intro i t1 hi hk hq H locs ls hP hD hS hl
      obtain ⟨_, _, _, _, _, _⟩ := id hk
      refine lv_iload_n hx hb de_M_present_2 rfl (lv_at hl 1 rfl) ?_
      refine lv_aload_n hx hb de_M_present_3 rfl (lv_at hl 0 rfl) ?_
      refine va_get (D := (dC, dI)) (ci := 9) (v := .int (nI (t1.2.2.2 1))) (C := "StabilitySumsModel") (T := TB_M) (N := 33) hx hb hts ui_M hown hK hP 0 rfl rfl 1 (by decide) (hts _ uw_697) (fun _ h9 => h9) rfl de_M_present_4 ?_
      refine lv_icmp_ge (tgt := 28) hx hb de_M_present_7 (by decide) (fun c_1 => ?_) (fun c_1 => ?_)
      · skip
        have c_1 : (t1.2.2.2 1) ≤ i := (nI_leI (a := t1.2.2.2 1) (b := i) (by omega) (by omega)).mp c_1
        refine lv_iconst (v := 0) hx hb de_M_present_28 (by decide) ?_
        refine lv_istore_n (lv' := [(1, .int 0), (0, .ref (ad 0))]) hx hb de_M_present_29 rfl hl (by decide) rfl (fun ls hl => ?_)
        have loop_30 : ∀ (n : Nat) (i : Nat) (t2 : St), (i + n = t.2.2.2 2) → (N6p t2 t1) → (y_pt n i t2 = y_pre t) → ∀ (H : Heap) (locs : List Loc) (ls : Array Slot), va_P (dC, dI) CLS (wM ad T t2) H → va_D A (wM ad T t2) → va_S A s.heap H locs → lv_has ls 2 [(0, .ref (ad 0)), (1, .int (nI i))] → W p l e (headSpec (.code yn_M_present cd_M_present 2 none :: UW) ({ frames := 0, cells := 0, slots := 0, locals := 0 } : Room)).room s m ([.ref (ad 0)] : List Value).toArray below meth c H locs 0 0 Q (F0 m 30 ls []) := by
          intro n
          induction n with
          | zero =>
            intro i t2 hi2 hk2 hq2 H locs ls hP hD hS hl
            obtain ⟨_, _, _, _, _, _⟩ := id hk2
            refine lv_iload_n hx hb de_M_present_30 rfl (lv_at hl 1 rfl) ?_
            refine lv_aload_n hx hb de_M_present_31 rfl (lv_at hl 0 rfl) ?_
            refine va_get (D := (dC, dI)) (ci := 9) (v := .int (nI (t2.2.2.2 2))) (C := "StabilitySumsModel") (T := TB_M) (N := 33) hx hb hts ui_M hown hK hP 0 rfl rfl 6 (by decide) (hts _ uw_702) (fun _ h9 => h9) rfl de_M_present_32 ?_
            refine lv_icmp_ge (tgt := 56) hx hb de_M_present_35 (by decide) (fun c_2 => ?_) (fun c_2 => ?_)
            · skip
              have c_2 : (t2.2.2.2 2) ≤ i := (nI_leI (a := t2.2.2.2 2) (b := i) (by omega) (by omega)).mp c_2
              have hfin : t2 = y_pre t := by
                exact hq2
              rw [hfin] at hP hD
              subst hQ
              exact W.vret hx hb hr (fun t9 ht hW => ⟨⟨(), rfl, trivial, by rw [ht]; exact hP, va_K.moved hW.alike hK, hD⟩, hS.F ht⟩) hS.2.2 de_M_present_56
            · skip
              have c_2 : ¬ ((t2.2.2.2 2) ≤ i) := fun z => c_2 ((nI_leI (a := t2.2.2.2 2) (b := i) (by omega) (by omega)).mpr z)
              exfalso; omega
          | succ n ih =>
            intro i t2 hi2 hk2 hq2 H locs ls hP hD hS hl
            obtain ⟨_, _, _, _, _, _⟩ := id hk2
            refine lv_iload_n hx hb de_M_present_30 rfl (lv_at hl 1 rfl) ?_
            refine lv_aload_n hx hb de_M_present_31 rfl (lv_at hl 0 rfl) ?_
            refine va_get (D := (dC, dI)) (ci := 9) (v := .int (nI (t2.2.2.2 2))) (C := "StabilitySumsModel") (T := TB_M) (N := 33) hx hb hts ui_M hown hK hP 0 rfl rfl 6 (by decide) (hts _ uw_702) (fun _ h9 => h9) rfl de_M_present_32 ?_
            refine lv_icmp_ge (tgt := 56) hx hb de_M_present_35 (by decide) (fun c_3 => ?_) (fun c_3 => ?_)
            · skip
              have c_3 : (t2.2.2.2 2) ≤ i := (nI_leI (a := t2.2.2.2 2) (b := i) (by omega) (by omega)).mp c_3
              exfalso; omega
            · skip
              have c_3 : ¬ ((t2.2.2.2 2) ≤ i) := fun z => c_3 ((nI_leI (a := t2.2.2.2 2) (b := i) (by omega) (by omega)).mpr z)
              refine lv_aload_n hx hb de_M_present_38 rfl (lv_at hl 0 rfl) ?_
              refine va_get (D := (dC, dI)) (ci := 9) (v := .ref (ad 12)) (C := "StabilitySumsModel") (T := TB_M) (N := 33) hx hb hts ui_M hown hK hP 0 rfl rfl 14 (by decide) (hts _ uw_710) (fun _ h9 => h9) rfl de_M_present_39 ?_
              refine lv_iload_n hx hb de_M_present_42 rfl (lv_at hl 1 rfl) ?_
              refine lv_aload_n hx hb de_M_present_43 rfl (lv_at hl 0 rfl) ?_
              refine va_get (D := (dC, dI)) (ci := 9) (v := .ref (ad 10)) (C := "StabilitySumsModel") (T := TB_M) (N := 33) hx hb hts ui_M hown hK hP 0 rfl rfl 12 (by decide) (hts _ uw_708) (fun _ h9 => h9) rfl de_M_present_44 ?_
              refine lv_iload_n hx hb de_M_present_47 rfl (lv_at hl 1 rfl) ?_
              refine rw_lald (f := t2.1 9) (j := i) hx hb hK hP 10 0 rfl rfl (by omega) (by decide) de_M_present_48 ?_
              refine rw_last (f := t2.1 11) (j := i) (x := (t2.1 9 i)) hx hb hK hP hD hS 12 0 rfl rfl (by omega) (by decide) de_M_present_49 (fun H locs hP hD hS => ?_)
              have hP : va_P (dC, dI) CLS (wM ad T (sL t2 11 i (t2.1 9 i))) H := hP
              have hD : va_D A (wM ad T (sL t2 11 i (t2.1 9 i))) := hD
              refine lv_iinc (v := (nI (i + 1))) (lv' := [(1, .int (nI (i + 1))), (0, .ref (ad 0))]) hx hb de_M_present_50 hl (k := 1) rfl (nI_1 i) (by decide) rfl (fun ls hl => ?_)
              refine lv_goto (tgt := 30) hx hb de_M_present_53 (by decide) ?_
              exact ih (i + 1) (sL t2 11 i (t2.1 9 i)) (by omega) hk2 hq2 H locs ls hP hD hS (lv_sub hl [1, 0] rfl)
        exact loop_30 (t.2.2.2 2) 0 t1 (by omega) (nsix rfl) (by have h1 : t1 = _ := hq; rw [h1]; rfl) _ _ ls hP hD hS (lv_sub hl [1, 0] rfl)
      · skip
        have c_1 : ¬ ((t1.2.2.2 1) ≤ i) := fun z => c_1 ((nI_leI (a := t1.2.2.2 1) (b := i) (by omega) (by omega)).mpr z)
        exfalso; omega
    | succ n ih =>
      intro i t1 hi hk hq H locs ls hP hD hS hl
      obtain ⟨_, _, _, _, _, _⟩ := id hk
      refine lv_iload_n hx hb de_M_present_2 rfl (lv_at hl 1 rfl) ?_
      refine lv_aload_n hx hb de_M_present_3 rfl (lv_at hl 0 rfl) ?_
      refine va_get (D := (dC, dI)) (ci := 9) (v := .int (nI (t1.2.2.2 1))) (C := "StabilitySumsModel") (T := TB_M) (N := 33) hx hb hts ui_M hown hK hP 0 rfl rfl 1 (by decide) (hts _ uw_697) (fun _ h9 => h9) rfl de_M_present_4 ?_
      refine lv_icmp_ge (tgt := 28) hx hb de_M_present_7 (by decide) (fun c_4 => ?_) (fun c_4 => ?_)
      · skip
        have c_4 : (t1.2.2.2 1) ≤ i := (nI_leI (a := t1.2.2.2 1) (b := i) (by omega) (by omega)).mp c_4
        exfalso; omega
      · skip
        have c_4 : ¬ ((t1.2.2.2 1) ≤ i) := fun z => c_4 ((nI_leI (a := t1.2.2.2 1) (b := i) (by omega) (by omega)).mpr z)
        refine lv_aload_n hx hb de_M_present_10 rfl (lv_at hl 0 rfl) ?_
        refine va_get (D := (dC, dI)) (ci := 9) (v := .ref (ad 11)) (C := "StabilitySumsModel") (T := TB_M) (N := 33) hx hb hts ui_M hown hK hP 0 rfl rfl 13 (by decide) (hts _ uw_709) (fun _ h9 => h9) rfl de_M_present_11 ?_
        refine lv_iload_n hx hb de_M_present_14 rfl (lv_at hl 1 rfl) ?_
        refine lv_aload_n hx hb de_M_present_15 rfl (lv_at hl 0 rfl) ?_
        refine va_get (D := (dC, dI)) (ci := 9) (v := .ref (ad 1)) (C := "StabilitySumsModel") (T := TB_M) (N := 33) hx hb hts ui_M hown hK hP 0 rfl rfl 2 (by decide) (hts _ uw_698) (fun _ h9 => h9) rfl de_M_present_16 ?_
        refine lv_iload_n hx hb de_M_present_19 rfl (lv_at hl 1 rfl) ?_
        refine rw_lald (f := t1.1 0) (j := i) hx hb hK hP 1 0 rfl rfl (by omega) (by decide) de_M_present_20 ?_
        refine rw_last (f := t1.1 10) (j := i) (x := (t1.1 0 i)) hx hb hK hP hD hS 11 0 rfl rfl (by omega) (by decide) de_M_present_21 (fun H locs hP hD hS => ?_)
        have hP : va_P (dC, dI) CLS (wM ad T (sL t1 10 i (t1.1 0 i))) H := hP
        have hD : va_D A (wM ad T (sL t1 10 i (t1.1 0 i))) := hD
        refine lv_iinc (v := (nI (i + 1))) (lv' := [(1, .int (nI (i + 1))), (0, .ref (ad 0))]) hx hb de_M_present_22 hl (k := 1) rfl (nI_1 i) (by decide) rfl (fun ls hl => ?_)
        refine lv_goto (tgt := 2) hx hb de_M_present_25 (by decide) ?_
        exact ih (i + 1) (sL t1 10 i (t1.1 0 i)) (by omega) hk hq H locs ls hP hD hS (lv_sub hl [1, 0] rfl)
  exact loop_2 (t.2.2.2 1) 0 t (by omega) (nsix rfl) rfl _ _ ls hP hD hS (lv_sub hl [1, 0] rfl)
set_option maxHeartbeats 4000000 in
set_option maxRecDepth 100000 in
theorem mt_M_sum (l : Launch) (dC : Nat → ClassId) (dI : Nat → Nat → Nat) (ad : Nat → Nat) (T : Nat → ClassId) (t : St) (a0 : Int32) (hI : IvM t) (sz : Nat) : Met l yn_M_sum (.code yn_M_sum cd_M_sum 5 (some .long) :: UW) ({ frames := 0, cells := 0, slots := 0, locals := 0 } : Room) (va_Pc [.ref (ad 0), .int a0] (Pw (dC, dI) CLS (TY T) (wM ad T t) sz)) (va_Ql (fun (r : Int64) (_ : Unit) => r = y_S a0 t) (Bw (dC, dI) CLS (TY T) (fun _ : Unit => (wM ad T t)) (va_A (wM ad T t) sz)) (va_A (wM ad T t) sz)) 0 0 (va_A (wM ad T t) sz) := by
  refine Met.ofW (cc := cd_M_sum) (maxL := 5) (ret := (some .long)) (by decide) rfl ?_
  intro p e s m args below meth c s₁ B hml hv
  obtain ⟨rfl, hsz, hP, hK, hD0, hN⟩ := hv
  have hx := B.exec
  have hb := B.bytes
  have hr := B.returns
  have hts : ∀ w ∈ UW, w.before _ s = true := fun w h => atoms_spec (ws := .code yn_M_sum cd_M_sum 5 (some .long) :: UW) B.pre w (List.mem_cons_of_mem _ h)
  have hown : s.vm.findClass "StabilitySumsModel" = some m.cls := findClass_of_methodNamed B.named
  have hlocks := B.notSynchronized
  subst hsz
  have hD := hD0.self (sz := s.heap.size)
  generalize hAe : va_A (wM ad T t) s.heap.size = A at hD ⊢
  have hA : ∀ q : Nat, s.heap.size ≤ q → A q := fun q h => by rw [← hAe]; exact Or.inr h
  have hS : va_S A s.heap s.heap [] := va_S.rf
  have hl := lv_entry ([.ref (ad 0), .int a0]) (n := 5) (Nat.le_of_ble_eq_true rfl)
  rw [lg_entry_eq]
  generalize (lg_sl ([.ref (ad 0), .int a0]) ++ List.replicate (5 - (lg_sl ([.ref (ad 0), .int a0])).length) Slot.unset).toArray = ls at hl ⊢
  have hl : lv_has ls 5 [(0, .ref (ad 0)), (1, .int a0)] := hl
  generalize hQ : MQ below _ _ s 0 0 A = Q
  obtain ⟨hI1, hI2, hI3, hI4, hI5⟩ := hI
  refine lv_lconst (v := 0) hx hb de_M_sum_0 (by decide) ?_
  refine lv_lstore_n (lv' := [(2, .long 0), (0, .ref (ad 0)), (1, .int a0)]) hx hb de_M_sum_1 rfl hl (by decide) rfl (fun ls hl => ?_)
  refine lv_iconst (v := 0) hx hb de_M_sum_2 (by decide) ?_
  refine lv_istore (lv' := [(4, .int 0), (2, .long 0), (0, .ref (ad 0)), (1, .int a0)]) hx hb de_M_sum_3 hl (by decide) rfl (fun ls hl => ?_)
  have loop_5 : ∀ (n : Nat) (i : Nat) (a : Int64), (i + n = t.2.2.2 1) → (y_sw a0 t.1 n i a = y_sw a0 t.1 (t.2.2.2 1) 0 0) → ∀ (H : Heap) (locs : List Loc) (ls : Array Slot), va_P (dC, dI) CLS (wM ad T t) H → va_D A (wM ad T t) → va_S A s.heap H locs → lv_has ls 5 [(0, .ref (ad 0)), (1, .int a0), (2, .long a), (4, .int (nI i))] → W p l e (headSpec (.code yn_M_sum cd_M_sum 5 (some .long) :: UW) ({ frames := 0, cells := 0, slots := 0, locals := 0 } : Room)).room s m ([.ref (ad 0), .int a0] : List Value).toArray below meth c H locs 0 0 Q (F0 m 5 ls []) := by
    intro n
    induction n with
    | zero =>
      intro i a hi hq H locs ls hP hD hS hl
      refine lv_iload hx hb de_M_sum_5 (lv_at hl 3 rfl) ?_
      refine lv_aload_n hx hb de_M_sum_7 rfl (lv_at hl 0 rfl) ?_
      refine va_get (D := (dC, dI)) (ci := 9) (v := .int (nI (t.2.2.2 1))) (C := "StabilitySumsModel") (T := TB_M) (N := 33) hx hb hts ui_M hown hK hP 0 rfl rfl 1 (by decide) (hts _ uw_697) (fun _ h9 => h9) rfl de_M_sum_8 ?_
      refine lv_icmp_ge (tgt := 76) hx hb de_M_sum_11 (by decide) (fun c_1 => ?_) (fun c_1 => ?_)
      · skip
        have c_1 : (t.2.2.2 1) ≤ i := (nI_leI (a := t.2.2.2 1) (b := i) (by omega) (by omega)).mp c_1
        refine lv_iconst (v := 0) hx hb de_M_sum_76 (by decide) ?_
        refine lv_istore (lv' := [(4, .int 0), (0, .ref (ad 0)), (1, .int a0), (2, .long a)]) hx hb de_M_sum_77 hl (by decide) rfl (fun ls hl => ?_)
        have loop_79 : ∀ (n : Nat) (i : Nat) (b : Int64), (i + n = t.2.2.2 2) → (y_st a0 t.1 n i b = y_S a0 t) → ∀ (H : Heap) (locs : List Loc) (ls : Array Slot), va_P (dC, dI) CLS (wM ad T t) H → va_D A (wM ad T t) → va_S A s.heap H locs → lv_has ls 5 [(0, .ref (ad 0)), (1, .int a0), (2, .long b), (4, .int (nI i))] → W p l e (headSpec (.code yn_M_sum cd_M_sum 5 (some .long) :: UW) ({ frames := 0, cells := 0, slots := 0, locals := 0 } : Room)).room s m ([.ref (ad 0), .int a0] : List Value).toArray below meth c H locs 0 0 Q (F0 m 79 ls []) := by
          intro n
          induction n with
          | zero =>
            intro i b hi2 hq2 H locs ls hP hD hS hl
            refine lv_iload hx hb de_M_sum_79 (lv_at hl 3 rfl) ?_
            refine lv_aload_n hx hb de_M_sum_81 rfl (lv_at hl 0 rfl) ?_
            refine va_get (D := (dC, dI)) (ci := 9) (v := .int (nI (t.2.2.2 2))) (C := "StabilitySumsModel") (T := TB_M) (N := 33) hx hb hts ui_M hown hK hP 0 rfl rfl 6 (by decide) (hts _ uw_702) (fun _ h9 => h9) rfl de_M_sum_82 ?_
            refine lv_icmp_ge (tgt := 150) hx hb de_M_sum_85 (by decide) (fun c_2 => ?_) (fun c_2 => ?_)
            · skip
              have c_2 : (t.2.2.2 2) ≤ i := (nI_leI (a := t.2.2.2 2) (b := i) (by omega) (by omega)).mp c_2
              refine lv_lload_n hx hb de_M_sum_150 rfl (lv_at hl 2 rfl) ?_
              subst hQ
              have hpost : (b : Int64) = y_S a0 t := by
                exact hq2
              exact W.lret (v := b) hx hb hr (fun t9 ht hW => ⟨⟨b, (), rfl, hpost, by rw [ht]; exact hP, va_K.moved hW.alike hK, hD⟩, hS.F ht⟩) hS.2.2 de_M_sum_151
            · skip
              have c_2 : ¬ ((t.2.2.2 2) ≤ i) := fun z => c_2 ((nI_leI (a := t.2.2.2 2) (b := i) (by omega) (by omega)).mpr z)
              exfalso; omega
          | succ n ih =>
            intro i b hi2 hq2 H locs ls hP hD hS hl
            refine lv_iload hx hb de_M_sum_79 (lv_at hl 3 rfl) ?_
            refine lv_aload_n hx hb de_M_sum_81 rfl (lv_at hl 0 rfl) ?_
            refine va_get (D := (dC, dI)) (ci := 9) (v := .int (nI (t.2.2.2 2))) (C := "StabilitySumsModel") (T := TB_M) (N := 33) hx hb hts ui_M hown hK hP 0 rfl rfl 6 (by decide) (hts _ uw_702) (fun _ h9 => h9) rfl de_M_sum_82 ?_
            refine lv_icmp_ge (tgt := 150) hx hb de_M_sum_85 (by decide) (fun c_3 => ?_) (fun c_3 => ?_)
            · skip
              have c_3 : (t.2.2.2 2) ≤ i := (nI_leI (a := t.2.2.2 2) (b := i) (by omega) (by omega)).mp c_3
              exfalso; omega
            · skip
              have c_3 : ¬ ((t.2.2.2 2) ≤ i) := fun z => c_3 ((nI_leI (a := t.2.2.2 2) (b := i) (by omega) (by omega)).mpr z)
              refine lv_lload_n hx hb de_M_sum_88 rfl (lv_at hl 2 rfl) ?_
              refine lv_aload_n hx hb de_M_sum_89 rfl (lv_at hl 0 rfl) ?_
              refine va_get (D := (dC, dI)) (ci := 9) (v := .ref (ad 12)) (C := "StabilitySumsModel") (T := TB_M) (N := 33) hx hb hts ui_M hown hK hP 0 rfl rfl 14 (by decide) (hts _ uw_710) (fun _ h9 => h9) rfl de_M_sum_90 ?_
              refine lv_iload hx hb de_M_sum_93 (lv_at hl 3 rfl) ?_
              refine rw_lald (f := t.1 11) (j := i) hx hb hK hP 12 0 rfl rfl (by omega) (by decide) de_M_sum_95 ?_
              refine lv_iload_n hx hb de_M_sum_96 rfl (lv_at hl 1 rfl) ?_
              refine lv_if_ne (tgt := 104) hx hb de_M_sum_97 (by decide) (fun c_4 => ?_) (fun c_4 => ?_)
              · skip
                refine lv_iload_n hx hb de_M_sum_104 rfl (lv_at hl 1 rfl) ?_
                refine lv_iconst (v := 1) hx hb de_M_sum_105 (by decide) ?_
                refine lv_icmp_ne (tgt := 119) hx hb de_M_sum_106 (by decide) (fun c_5 => ?_) (fun c_5 => ?_)
                · skip
                  refine lv_iload_n hx hb de_M_sum_119 rfl (lv_at hl 1 rfl) ?_
                  refine lv_iconst (v := 2) hx hb de_M_sum_120 (by decide) ?_
                  refine lv_icmp_ne (tgt := 134) hx hb de_M_sum_121 (by decide) (fun c_6 => ?_) (fun c_6 => ?_)
                  · skip
                    refine lv_aload_n hx hb de_M_sum_134 rfl (lv_at hl 0 rfl) ?_
                    refine va_get (D := (dC, dI)) (ci := 9) (v := .ref (ad 9)) (C := "StabilitySumsModel") (T := TB_M) (N := 33) hx hb hts ui_M hown hK hP 0 rfl rfl 11 (by decide) (hts _ uw_707) (fun _ h9 => h9) rfl de_M_sum_135 ?_
                    refine lv_iload hx hb de_M_sum_138 (lv_at hl 3 rfl) ?_
                    refine rw_lald (f := t.1 8) (j := i) hx hb hK hP 9 0 rfl rfl (by omega) (by decide) de_M_sum_140 ?_
                    refine lv_lmul hx hb de_M_sum_141 ?_
                    refine lv_topl (fun v_7 ev_7 => ?_)
                    have ev_7 : v_7 = (t.1 11 i) * (t.1 8 i) := ev_7
                    refine lv_ladd hx hb de_M_sum_142 ?_
                    refine lv_topl (fun v_8 ev_8 => ?_)
                    have ev_8 : v_8 = b + v_7 := ev_8
                    refine lv_lstore_n (lv' := [(2, .long v_8), (0, .ref (ad 0)), (1, .int a0), (4, .int (nI i))]) hx hb de_M_sum_143 rfl hl (by decide) rfl (fun ls hl => ?_)
                    refine lv_iinc (v := (nI (i + 1))) (lv' := [(4, .int (nI (i + 1))), (2, .long v_8), (0, .ref (ad 0)), (1, .int a0)]) hx hb de_M_sum_144 hl (k := 3) rfl (nI_1 i) (by decide) rfl (fun ls hl => ?_)
                    refine lv_goto (tgt := 79) hx hb de_M_sum_147 (by decide) ?_
                    exact ih (i + 1) v_8 (by omega) (by rw [← hq2, y_st, ev_8, ev_7, y_c]; first | rw [if_neg c_4, if_neg c_5, if_pos c_6] | rw [if_neg c_4, if_neg c_5, if_neg c_6]) H locs ls hP hD hS (lv_sub hl [2, 3, 1, 0] rfl)
                  · skip
                    refine lv_aload_n hx hb de_M_sum_124 rfl (lv_at hl 0 rfl) ?_
                    refine va_get (D := (dC, dI)) (ci := 9) (v := .ref (ad 8)) (C := "StabilitySumsModel") (T := TB_M) (N := 33) hx hb hts ui_M hown hK hP 0 rfl rfl 10 (by decide) (hts _ uw_706) (fun _ h9 => h9) rfl de_M_sum_125 ?_
                    refine lv_iload hx hb de_M_sum_128 (lv_at hl 3 rfl) ?_
                    refine rw_lald (f := t.1 7) (j := i) hx hb hK hP 8 0 rfl rfl (by omega) (by decide) de_M_sum_130 ?_
                    refine lv_goto (tgt := 141) hx hb de_M_sum_131 (by decide) ?_
                    refine lv_lmul hx hb de_M_sum_141 ?_
                    refine lv_topl (fun v_9 ev_9 => ?_)
                    have ev_9 : v_9 = (t.1 11 i) * (t.1 7 i) := ev_9
                    refine lv_ladd hx hb de_M_sum_142 ?_
                    refine lv_topl (fun v_10 ev_10 => ?_)
                    have ev_10 : v_10 = b + v_9 := ev_10
                    refine lv_lstore_n (lv' := [(2, .long v_10), (0, .ref (ad 0)), (1, .int a0), (4, .int (nI i))]) hx hb de_M_sum_143 rfl hl (by decide) rfl (fun ls hl => ?_)
                    refine lv_iinc (v := (nI (i + 1))) (lv' := [(4, .int (nI (i + 1))), (2, .long v_10), (0, .ref (ad 0)), (1, .int a0)]) hx hb de_M_sum_144 hl (k := 3) rfl (nI_1 i) (by decide) rfl (fun ls hl => ?_)
                    refine lv_goto (tgt := 79) hx hb de_M_sum_147 (by decide) ?_
                    exact ih (i + 1) v_10 (by omega) (by rw [← hq2, y_st, ev_10, ev_9, y_c]; first | rw [if_neg c_4, if_neg c_5, if_pos c_6] | rw [if_neg c_4, if_neg c_5, if_neg c_6]) H locs ls hP hD hS (lv_sub hl [2, 3, 1, 0] rfl)
                · skip
                  refine lv_aload_n hx hb de_M_sum_109 rfl (lv_at hl 0 rfl) ?_
                  refine va_get (D := (dC, dI)) (ci := 9) (v := .ref (ad 7)) (C := "StabilitySumsModel") (T := TB_M) (N := 33) hx hb hts ui_M hown hK hP 0 rfl rfl 9 (by decide) (hts _ uw_705) (fun _ h9 => h9) rfl de_M_sum_110 ?_
                  refine lv_iload hx hb de_M_sum_113 (lv_at hl 3 rfl) ?_
                  refine rw_lald (f := t.1 6) (j := i) hx hb hK hP 7 0 rfl rfl (by omega) (by decide) de_M_sum_115 ?_
                  refine lv_goto (tgt := 141) hx hb de_M_sum_116 (by decide) ?_
                  refine lv_lmul hx hb de_M_sum_141 ?_
                  refine lv_topl (fun v_11 ev_11 => ?_)
                  have ev_11 : v_11 = (t.1 11 i) * (t.1 6 i) := ev_11
                  refine lv_ladd hx hb de_M_sum_142 ?_
                  refine lv_topl (fun v_12 ev_12 => ?_)
                  have ev_12 : v_12 = b + v_11 := ev_12
                  refine lv_lstore_n (lv' := [(2, .long v_12), (0, .ref (ad 0)), (1, .int a0), (4, .int (nI i))]) hx hb de_M_sum_143 rfl hl (by decide) rfl (fun ls hl => ?_)
                  refine lv_iinc (v := (nI (i + 1))) (lv' := [(4, .int (nI (i + 1))), (2, .long v_12), (0, .ref (ad 0)), (1, .int a0)]) hx hb de_M_sum_144 hl (k := 3) rfl (nI_1 i) (by decide) rfl (fun ls hl => ?_)
                  refine lv_goto (tgt := 79) hx hb de_M_sum_147 (by decide) ?_
                  exact ih (i + 1) v_12 (by omega) (by rw [← hq2, y_st, ev_12, ev_11, y_c]; first | rw [if_neg c_4, if_pos c_5] | rw [if_neg c_4, if_neg c_5]) H locs ls hP hD hS (lv_sub hl [2, 3, 1, 0] rfl)
              · skip
                refine lv_lconst (v := 1) hx hb de_M_sum_100 (by decide) ?_
                refine lv_goto (tgt := 141) hx hb de_M_sum_101 (by decide) ?_
                refine lv_lmul hx hb de_M_sum_141 ?_
                refine lv_topl (fun v_13 ev_13 => ?_)
                have ev_13 : v_13 = (t.1 11 i) * 1 := ev_13
                refine lv_ladd hx hb de_M_sum_142 ?_
                refine lv_topl (fun v_14 ev_14 => ?_)
                have ev_14 : v_14 = b + v_13 := ev_14
                refine lv_lstore_n (lv' := [(2, .long v_14), (0, .ref (ad 0)), (1, .int a0), (4, .int (nI i))]) hx hb de_M_sum_143 rfl hl (by decide) rfl (fun ls hl => ?_)
                refine lv_iinc (v := (nI (i + 1))) (lv' := [(4, .int (nI (i + 1))), (2, .long v_14), (0, .ref (ad 0)), (1, .int a0)]) hx hb de_M_sum_144 hl (k := 3) rfl (nI_1 i) (by decide) rfl (fun ls hl => ?_)
                refine lv_goto (tgt := 79) hx hb de_M_sum_147 (by decide) ?_
                exact ih (i + 1) v_14 (by omega) (by rw [← hq2, y_st, ev_14, ev_13, y_c]; first | rw [if_pos c_4] | rw [if_neg c_4]) H locs ls hP hD hS (lv_sub hl [2, 3, 1, 0] rfl)
        exact loop_79 (t.2.2.2 2) 0 a (by omega) (by have h1 : a = _ := hq; rw [h1]; rfl) _ _ ls hP hD hS (lv_sub hl [1, 2, 3, 0] rfl)
      · skip
        have c_1 : ¬ ((t.2.2.2 1) ≤ i) := fun z => c_1 ((nI_leI (a := t.2.2.2 1) (b := i) (by omega) (by omega)).mpr z)
        exfalso; omega
    | succ n ih =>
      intro i a hi hq H locs ls hP hD hS hl
      refine lv_iload hx hb de_M_sum_5 (lv_at hl 3 rfl) ?_
      refine lv_aload_n hx hb de_M_sum_7 rfl (lv_at hl 0 rfl) ?_
      refine va_get (D := (dC, dI)) (ci := 9) (v := .int (nI (t.2.2.2 1))) (C := "StabilitySumsModel") (T := TB_M) (N := 33) hx hb hts ui_M hown hK hP 0 rfl rfl 1 (by decide) (hts _ uw_697) (fun _ h9 => h9) rfl de_M_sum_8 ?_
      refine lv_icmp_ge (tgt := 76) hx hb de_M_sum_11 (by decide) (fun c_15 => ?_) (fun c_15 => ?_)
      · skip
        have c_15 : (t.2.2.2 1) ≤ i := (nI_leI (a := t.2.2.2 1) (b := i) (by omega) (by omega)).mp c_15
        exfalso; omega
      · skip
        have c_15 : ¬ ((t.2.2.2 1) ≤ i) := fun z => c_15 ((nI_leI (a := t.2.2.2 1) (b := i) (by omega) (by omega)).mpr z)
        refine lv_lload_n hx hb de_M_sum_14 rfl (lv_at hl 2 rfl) ?_
        refine lv_aload_n hx hb de_M_sum_15 rfl (lv_at hl 0 rfl) ?_
        refine va_get (D := (dC, dI)) (ci := 9) (v := .ref (ad 11)) (C := "StabilitySumsModel") (T := TB_M) (N := 33) hx hb hts ui_M hown hK hP 0 rfl rfl 13 (by decide) (hts _ uw_709) (fun _ h9 => h9) rfl de_M_sum_16 ?_
        refine lv_iload hx hb de_M_sum_19 (lv_at hl 3 rfl) ?_
        refine rw_lald (f := t.1 10) (j := i) hx hb hK hP 11 0 rfl rfl (by omega) (by decide) de_M_sum_21 ?_
        refine lv_iload_n hx hb de_M_sum_22 rfl (lv_at hl 1 rfl) ?_
        refine lv_if_ne (tgt := 30) hx hb de_M_sum_23 (by decide) (fun c_16 => ?_) (fun c_16 => ?_)
        · skip
          refine lv_iload_n hx hb de_M_sum_30 rfl (lv_at hl 1 rfl) ?_
          refine lv_iconst (v := 1) hx hb de_M_sum_31 (by decide) ?_
          refine lv_icmp_ne (tgt := 45) hx hb de_M_sum_32 (by decide) (fun c_17 => ?_) (fun c_17 => ?_)
          · skip
            refine lv_iload_n hx hb de_M_sum_45 rfl (lv_at hl 1 rfl) ?_
            refine lv_iconst (v := 2) hx hb de_M_sum_46 (by decide) ?_
            refine lv_icmp_ne (tgt := 60) hx hb de_M_sum_47 (by decide) (fun c_18 => ?_) (fun c_18 => ?_)
            · skip
              refine lv_aload_n hx hb de_M_sum_60 rfl (lv_at hl 0 rfl) ?_
              refine va_get (D := (dC, dI)) (ci := 9) (v := .ref (ad 4)) (C := "StabilitySumsModel") (T := TB_M) (N := 33) hx hb hts ui_M hown hK hP 0 rfl rfl 5 (by decide) (hts _ uw_701) (fun _ h9 => h9) rfl de_M_sum_61 ?_
              refine lv_iload hx hb de_M_sum_64 (lv_at hl 3 rfl) ?_
              refine rw_lald (f := t.1 3) (j := i) hx hb hK hP 4 0 rfl rfl (by omega) (by decide) de_M_sum_66 ?_
              refine lv_lmul hx hb de_M_sum_67 ?_
              refine lv_topl (fun v_19 ev_19 => ?_)
              have ev_19 : v_19 = (t.1 10 i) * (t.1 3 i) := ev_19
              refine lv_ladd hx hb de_M_sum_68 ?_
              refine lv_topl (fun v_20 ev_20 => ?_)
              have ev_20 : v_20 = a + v_19 := ev_20
              refine lv_lstore_n (lv' := [(2, .long v_20), (0, .ref (ad 0)), (1, .int a0), (4, .int (nI i))]) hx hb de_M_sum_69 rfl hl (by decide) rfl (fun ls hl => ?_)
              refine lv_iinc (v := (nI (i + 1))) (lv' := [(4, .int (nI (i + 1))), (2, .long v_20), (0, .ref (ad 0)), (1, .int a0)]) hx hb de_M_sum_70 hl (k := 3) rfl (nI_1 i) (by decide) rfl (fun ls hl => ?_)
              refine lv_goto (tgt := 5) hx hb de_M_sum_73 (by decide) ?_
              exact ih (i + 1) v_20 (by omega) (by rw [← hq, y_sw, ev_20, ev_19, y_c]; first | rw [if_neg c_16, if_neg c_17, if_pos c_18] | rw [if_neg c_16, if_neg c_17, if_neg c_18]) H locs ls hP hD hS (lv_sub hl [2, 3, 1, 0] rfl)
            · skip
              refine lv_aload_n hx hb de_M_sum_50 rfl (lv_at hl 0 rfl) ?_
              refine va_get (D := (dC, dI)) (ci := 9) (v := .ref (ad 3)) (C := "StabilitySumsModel") (T := TB_M) (N := 33) hx hb hts ui_M hown hK hP 0 rfl rfl 4 (by decide) (hts _ uw_700) (fun _ h9 => h9) rfl de_M_sum_51 ?_
              refine lv_iload hx hb de_M_sum_54 (lv_at hl 3 rfl) ?_
              refine rw_lald (f := t.1 2) (j := i) hx hb hK hP 3 0 rfl rfl (by omega) (by decide) de_M_sum_56 ?_
              refine lv_goto (tgt := 67) hx hb de_M_sum_57 (by decide) ?_
              refine lv_lmul hx hb de_M_sum_67 ?_
              refine lv_topl (fun v_21 ev_21 => ?_)
              have ev_21 : v_21 = (t.1 10 i) * (t.1 2 i) := ev_21
              refine lv_ladd hx hb de_M_sum_68 ?_
              refine lv_topl (fun v_22 ev_22 => ?_)
              have ev_22 : v_22 = a + v_21 := ev_22
              refine lv_lstore_n (lv' := [(2, .long v_22), (0, .ref (ad 0)), (1, .int a0), (4, .int (nI i))]) hx hb de_M_sum_69 rfl hl (by decide) rfl (fun ls hl => ?_)
              refine lv_iinc (v := (nI (i + 1))) (lv' := [(4, .int (nI (i + 1))), (2, .long v_22), (0, .ref (ad 0)), (1, .int a0)]) hx hb de_M_sum_70 hl (k := 3) rfl (nI_1 i) (by decide) rfl (fun ls hl => ?_)
              refine lv_goto (tgt := 5) hx hb de_M_sum_73 (by decide) ?_
              exact ih (i + 1) v_22 (by omega) (by rw [← hq, y_sw, ev_22, ev_21, y_c]; first | rw [if_neg c_16, if_neg c_17, if_pos c_18] | rw [if_neg c_16, if_neg c_17, if_neg c_18]) H locs ls hP hD hS (lv_sub hl [2, 3, 1, 0] rfl)
          · skip
            refine lv_aload_n hx hb de_M_sum_35 rfl (lv_at hl 0 rfl) ?_
            refine va_get (D := (dC, dI)) (ci := 9) (v := .ref (ad 2)) (C := "StabilitySumsModel") (T := TB_M) (N := 33) hx hb hts ui_M hown hK hP 0 rfl rfl 3 (by decide) (hts _ uw_699) (fun _ h9 => h9) rfl de_M_sum_36 ?_
            refine lv_iload hx hb de_M_sum_39 (lv_at hl 3 rfl) ?_
            refine rw_lald (f := t.1 1) (j := i) hx hb hK hP 2 0 rfl rfl (by omega) (by decide) de_M_sum_41 ?_
            refine lv_goto (tgt := 67) hx hb de_M_sum_42 (by decide) ?_
            refine lv_lmul hx hb de_M_sum_67 ?_
            refine lv_topl (fun v_23 ev_23 => ?_)
            have ev_23 : v_23 = (t.1 10 i) * (t.1 1 i) := ev_23
            refine lv_ladd hx hb de_M_sum_68 ?_
            refine lv_topl (fun v_24 ev_24 => ?_)
            have ev_24 : v_24 = a + v_23 := ev_24
            refine lv_lstore_n (lv' := [(2, .long v_24), (0, .ref (ad 0)), (1, .int a0), (4, .int (nI i))]) hx hb de_M_sum_69 rfl hl (by decide) rfl (fun ls hl => ?_)
            refine lv_iinc (v := (nI (i + 1))) (lv' := [(4, .int (nI (i + 1))), (2, .long v_24), (0, .ref (ad 0)), (1, .int a0)]) hx hb de_M_sum_70 hl (k := 3) rfl (nI_1 i) (by decide) rfl (fun ls hl => ?_)
            refine lv_goto (tgt := 5) hx hb de_M_sum_73 (by decide) ?_
            exact ih (i + 1) v_24 (by omega) (by rw [← hq, y_sw, ev_24, ev_23, y_c]; first | rw [if_neg c_16, if_pos c_17] | rw [if_neg c_16, if_neg c_17]) H locs ls hP hD hS (lv_sub hl [2, 3, 1, 0] rfl)
        · skip
          refine lv_lconst (v := 1) hx hb de_M_sum_26 (by decide) ?_
          refine lv_goto (tgt := 67) hx hb de_M_sum_27 (by decide) ?_
          refine lv_lmul hx hb de_M_sum_67 ?_
          refine lv_topl (fun v_25 ev_25 => ?_)
          have ev_25 : v_25 = (t.1 10 i) * 1 := ev_25
          refine lv_ladd hx hb de_M_sum_68 ?_
          refine lv_topl (fun v_26 ev_26 => ?_)
          have ev_26 : v_26 = a + v_25 := ev_26
          refine lv_lstore_n (lv' := [(2, .long v_26), (0, .ref (ad 0)), (1, .int a0), (4, .int (nI i))]) hx hb de_M_sum_69 rfl hl (by decide) rfl (fun ls hl => ?_)
          refine lv_iinc (v := (nI (i + 1))) (lv' := [(4, .int (nI (i + 1))), (2, .long v_26), (0, .ref (ad 0)), (1, .int a0)]) hx hb de_M_sum_70 hl (k := 3) rfl (nI_1 i) (by decide) rfl (fun ls hl => ?_)
          refine lv_goto (tgt := 5) hx hb de_M_sum_73 (by decide) ?_
          exact ih (i + 1) v_26 (by omega) (by rw [← hq, y_sw, ev_26, ev_25, y_c]; first | rw [if_pos c_16] | rw [if_neg c_16]) H locs ls hP hD hS (lv_sub hl [2, 3, 1, 0] rfl)
  exact loop_5 (t.2.2.2 1) 0 0 (by omega) rfl _ _ ls hP hD hS (lv_sub hl [2, 3, 1, 0] rfl)
set_option maxHeartbeats 4000000 in
set_option maxRecDepth 100000 in
theorem mt_M_free (l : Launch) (dC : Nat → ClassId) (dI : Nat → Nat → Nat) (ad : Nat → Nat) (T : Nat → ClassId) (t : St)  (hI : IvM t) (sz : Nat) : Met l yn_M_free (.code yn_M_free cd_M_free 4 (some .long) :: UW) ({ frames := 0, cells := 0, slots := 0, locals := 0 } : Room) (va_Pc [.ref (ad 0)] (Pw (dC, dI) CLS (TY T) (wM ad T t) sz)) (va_Ql (fun (r : Int64) (_ : Unit) => r = y_R t) (Bw (dC, dI) CLS (TY T) (fun _ : Unit => (wM ad T t)) (va_A (wM ad T t) sz)) (va_A (wM ad T t) sz)) 0 0 (va_A (wM ad T t) sz) := by
  refine Met.ofW (cc := cd_M_free) (maxL := 4) (ret := (some .long)) (by decide) rfl ?_
  intro p e s m args below meth c s₁ B hml hv
  obtain ⟨rfl, hsz, hP, hK, hD0, hN⟩ := hv
  have hx := B.exec
  have hb := B.bytes
  have hr := B.returns
  have hts : ∀ w ∈ UW, w.before _ s = true := fun w h => atoms_spec (ws := .code yn_M_free cd_M_free 4 (some .long) :: UW) B.pre w (List.mem_cons_of_mem _ h)
  have hown : s.vm.findClass "StabilitySumsModel" = some m.cls := findClass_of_methodNamed B.named
  have hlocks := B.notSynchronized
  subst hsz
  have hD := hD0.self (sz := s.heap.size)
  generalize hAe : va_A (wM ad T t) s.heap.size = A at hD ⊢
  have hA : ∀ q : Nat, s.heap.size ≤ q → A q := fun q h => by rw [← hAe]; exact Or.inr h
  have hS : va_S A s.heap s.heap [] := va_S.rf
  have hl := lv_entry ([.ref (ad 0)]) (n := 4) (Nat.le_of_ble_eq_true rfl)
  rw [lg_entry_eq]
  generalize (lg_sl ([.ref (ad 0)]) ++ List.replicate (4 - (lg_sl ([.ref (ad 0)])).length) Slot.unset).toArray = ls at hl ⊢
  have hl : lv_has ls 4 [(0, .ref (ad 0))] := hl
  generalize hQ : MQ below _ _ s 0 0 A = Q
  obtain ⟨hI1, hI2, hI3, hI4, hI5⟩ := hI
  refine lv_lconst (v := 0) hx hb de_M_free_0 (by decide) ?_
  refine lv_lstore_n (lv' := [(1, .long 0), (0, .ref (ad 0))]) hx hb de_M_free_1 rfl hl (by decide) rfl (fun ls hl => ?_)
  refine lv_iconst (v := 0) hx hb de_M_free_2 (by decide) ?_
  refine lv_istore_n (lv' := [(3, .int 0), (1, .long 0), (0, .ref (ad 0))]) hx hb de_M_free_3 rfl hl (by decide) rfl (fun ls hl => ?_)
  have loop_4 : ∀ (n : Nat) (i : Nat) (a : Int64), (i + n = t.2.2.2 2) → (y_fr t.1 n i a = y_R t) → ∀ (H : Heap) (locs : List Loc) (ls : Array Slot), va_P (dC, dI) CLS (wM ad T t) H → va_D A (wM ad T t) → va_S A s.heap H locs → lv_has ls 4 [(0, .ref (ad 0)), (1, .long a), (3, .int (nI i))] → W p l e (headSpec (.code yn_M_free cd_M_free 4 (some .long) :: UW) ({ frames := 0, cells := 0, slots := 0, locals := 0 } : Room)).room s m ([.ref (ad 0)] : List Value).toArray below meth c H locs 0 0 Q (F0 m 4 ls []) := by
    intro n
    induction n with
    | zero =>
      intro i a hi hq H locs ls hP hD hS hl
      refine lv_iload_n hx hb de_M_free_4 rfl (lv_at hl 2 rfl) ?_
      refine lv_aload_n hx hb de_M_free_5 rfl (lv_at hl 0 rfl) ?_
      refine va_get (D := (dC, dI)) (ci := 9) (v := .int (nI (t.2.2.2 2))) (C := "StabilitySumsModel") (T := TB_M) (N := 33) hx hb hts ui_M hown hK hP 0 rfl rfl 6 (by decide) (hts _ uw_702) (fun _ h9 => h9) rfl de_M_free_6 ?_
      refine lv_icmp_ge (tgt := 58) hx hb de_M_free_9 (by decide) (fun c_1 => ?_) (fun c_1 => ?_)
      · skip
        have c_1 : (t.2.2.2 2) ≤ i := (nI_leI (a := t.2.2.2 2) (b := i) (by omega) (by omega)).mp c_1
        refine lv_lload_n hx hb de_M_free_58 rfl (lv_at hl 1 rfl) ?_
        subst hQ
        have hpost : (a : Int64) = y_R t := by
          exact hq
        exact W.lret (v := a) hx hb hr (fun t9 ht hW => ⟨⟨a, (), rfl, hpost, by rw [ht]; exact hP, va_K.moved hW.alike hK, hD⟩, hS.F ht⟩) hS.2.2 de_M_free_59
      · skip
        have c_1 : ¬ ((t.2.2.2 2) ≤ i) := fun z => c_1 ((nI_leI (a := t.2.2.2 2) (b := i) (by omega) (by omega)).mpr z)
        exfalso; omega
    | succ n ih =>
      intro i a hi hq H locs ls hP hD hS hl
      refine lv_iload_n hx hb de_M_free_4 rfl (lv_at hl 2 rfl) ?_
      refine lv_aload_n hx hb de_M_free_5 rfl (lv_at hl 0 rfl) ?_
      refine va_get (D := (dC, dI)) (ci := 9) (v := .int (nI (t.2.2.2 2))) (C := "StabilitySumsModel") (T := TB_M) (N := 33) hx hb hts ui_M hown hK hP 0 rfl rfl 6 (by decide) (hts _ uw_702) (fun _ h9 => h9) rfl de_M_free_6 ?_
      refine lv_icmp_ge (tgt := 58) hx hb de_M_free_9 (by decide) (fun c_2 => ?_) (fun c_2 => ?_)
      · skip
        have c_2 : (t.2.2.2 2) ≤ i := (nI_leI (a := t.2.2.2 2) (b := i) (by omega) (by omega)).mp c_2
        exfalso; omega
      · skip
        have c_2 : ¬ ((t.2.2.2 2) ≤ i) := fun z => c_2 ((nI_leI (a := t.2.2.2 2) (b := i) (by omega) (by omega)).mpr z)
        refine lv_lload_n hx hb de_M_free_12 rfl (lv_at hl 1 rfl) ?_
        refine lv_aload_n hx hb de_M_free_13 rfl (lv_at hl 0 rfl) ?_
        refine va_get (D := (dC, dI)) (ci := 9) (v := .ref (ad 12)) (C := "StabilitySumsModel") (T := TB_M) (N := 33) hx hb hts ui_M hown hK hP 0 rfl rfl 14 (by decide) (hts _ uw_710) (fun _ h9 => h9) rfl de_M_free_14 ?_
        refine lv_iload_n hx hb de_M_free_17 rfl (lv_at hl 2 rfl) ?_
        refine rw_lald (f := t.1 11) (j := i) hx hb hK hP 12 0 rfl rfl (by omega) (by decide) de_M_free_18 ?_
        refine lv_lconst (v := 0) hx hb de_M_free_19 (by decide) ?_
        refine rw_le (tgt := 49) hx hb de_M_free_20 de_M_free_21 (by decide) (fun c_3 => ?_) (fun c_3 => ?_)
        · skip
          refine lv_lconst (v := 0) hx hb de_M_free_49 (by decide) ?_
          refine lv_ladd hx hb de_M_free_50 ?_
          refine lv_topl (fun v_4 ev_4 => ?_)
          have ev_4 : v_4 = a + 0 := ev_4
          refine lv_lstore_n (lv' := [(1, .long v_4), (0, .ref (ad 0)), (3, .int (nI i))]) hx hb de_M_free_51 rfl hl (by decide) rfl (fun ls hl => ?_)
          refine lv_iinc (v := (nI (i + 1))) (lv' := [(3, .int (nI (i + 1))), (1, .long v_4), (0, .ref (ad 0))]) hx hb de_M_free_52 hl (k := 2) rfl (nI_1 i) (by decide) rfl (fun ls hl => ?_)
          refine lv_goto (tgt := 4) hx hb de_M_free_55 (by decide) ?_
          exact ih (i + 1) v_4 (by omega) (by rw [← hq, y_fr]; subst_vars; simp only [c_3, ↓reduceIte]) H locs ls hP hD hS (lv_sub hl [2, 1, 0] rfl)
        · skip
          refine lv_aload_n hx hb de_M_free_24 rfl (lv_at hl 0 rfl) ?_
          refine va_get (D := (dC, dI)) (ci := 9) (v := .ref (ad 12)) (C := "StabilitySumsModel") (T := TB_M) (N := 33) hx hb hts ui_M hown hK hP 0 rfl rfl 14 (by decide) (hts _ uw_710) (fun _ h9 => h9) rfl de_M_free_25 ?_
          refine lv_iload_n hx hb de_M_free_28 rfl (lv_at hl 2 rfl) ?_
          refine rw_lald (f := t.1 11) (j := i) hx hb hK hP 12 0 rfl rfl (by omega) (by decide) de_M_free_29 ?_
          refine lv_aload_n hx hb de_M_free_30 rfl (lv_at hl 0 rfl) ?_
          refine va_get (D := (dC, dI)) (ci := 9) (v := .ref (ad 5)) (C := "StabilitySumsModel") (T := TB_M) (N := 33) hx hb hts ui_M hown hK hP 0 rfl rfl 7 (by decide) (hts _ uw_703) (fun _ h9 => h9) rfl de_M_free_31 ?_
          refine lv_iload_n hx hb de_M_free_34 rfl (lv_at hl 2 rfl) ?_
          refine rw_lald (f := t.1 4) (j := i) hx hb hK hP 5 0 rfl rfl (by omega) (by decide) de_M_free_35 ?_
          refine rw_ge (tgt := 49) hx hb de_M_free_36 de_M_free_37 (by decide) (fun c_5 => ?_) (fun c_5 => ?_)
          · skip
            refine lv_lconst (v := 0) hx hb de_M_free_49 (by decide) ?_
            refine lv_ladd hx hb de_M_free_50 ?_
            refine lv_topl (fun v_6 ev_6 => ?_)
            have ev_6 : v_6 = a + 0 := ev_6
            refine lv_lstore_n (lv' := [(1, .long v_6), (0, .ref (ad 0)), (3, .int (nI i))]) hx hb de_M_free_51 rfl hl (by decide) rfl (fun ls hl => ?_)
            refine lv_iinc (v := (nI (i + 1))) (lv' := [(3, .int (nI (i + 1))), (1, .long v_6), (0, .ref (ad 0))]) hx hb de_M_free_52 hl (k := 2) rfl (nI_1 i) (by decide) rfl (fun ls hl => ?_)
            refine lv_goto (tgt := 4) hx hb de_M_free_55 (by decide) ?_
            exact ih (i + 1) v_6 (by omega) (by rw [← hq, y_fr]; subst_vars; simp only [c_3, c_5, ↓reduceIte]) H locs ls hP hD hS (lv_sub hl [2, 1, 0] rfl)
          · skip
            refine lv_aload_n hx hb de_M_free_40 rfl (lv_at hl 0 rfl) ?_
            refine va_get (D := (dC, dI)) (ci := 9) (v := .ref (ad 6)) (C := "StabilitySumsModel") (T := TB_M) (N := 33) hx hb hts ui_M hown hK hP 0 rfl rfl 8 (by decide) (hts _ uw_704) (fun _ h9 => h9) rfl de_M_free_41 ?_
            refine lv_iload_n hx hb de_M_free_44 rfl (lv_at hl 2 rfl) ?_
            refine rw_lald (f := t.1 5) (j := i) hx hb hK hP 6 0 rfl rfl (by omega) (by decide) de_M_free_45 ?_
            refine lv_goto (tgt := 50) hx hb de_M_free_46 (by decide) ?_
            refine lv_ladd hx hb de_M_free_50 ?_
            refine lv_topl (fun v_7 ev_7 => ?_)
            have ev_7 : v_7 = a + (t.1 5 i) := ev_7
            refine lv_lstore_n (lv' := [(1, .long v_7), (0, .ref (ad 0)), (3, .int (nI i))]) hx hb de_M_free_51 rfl hl (by decide) rfl (fun ls hl => ?_)
            refine lv_iinc (v := (nI (i + 1))) (lv' := [(3, .int (nI (i + 1))), (1, .long v_7), (0, .ref (ad 0))]) hx hb de_M_free_52 hl (k := 2) rfl (nI_1 i) (by decide) rfl (fun ls hl => ?_)
            refine lv_goto (tgt := 4) hx hb de_M_free_55 (by decide) ?_
            exact ih (i + 1) v_7 (by omega) (by rw [← hq, y_fr]; subst_vars; simp only [c_3, c_5, ↓reduceIte]) H locs ls hP hD hS (lv_sub hl [2, 1, 0] rfl)
  exact loop_4 (t.2.2.2 2) 0 0 (by omega) rfl _ _ ls hP hD hS (lv_sub hl [2, 1, 0] rfl)
set_option maxHeartbeats 4000000 in
set_option maxRecDepth 100000 in
theorem mt_M_divides (l : Launch) (dC : Nat → ClassId) (dI : Nat → Nat → Nat) (ad : Nat → Nat) (T : Nat → ClassId) (t : St) (a0 : Int32)  (sz : Nat) : Met l yn_M_divides (.code yn_M_divides cd_M_divides 1 (some .boolean) :: UW) ({ frames := 0, cells := 0, slots := 0, locals := 0 } : Room) (va_Pc [.int a0] (Pw (dC, dI) CLS (TY T) (wM ad T t) sz)) (va_Qi (fun (r : Int32) (_ : Unit) => bz r (y_div a0)) (Bw (dC, dI) CLS (TY T) (fun _ : Unit => (wM ad T t)) (va_A (wM ad T t) sz)) (va_A (wM ad T t) sz)) 0 0 (va_A (wM ad T t) sz) := by
  refine Met.ofW (cc := cd_M_divides) (maxL := 1) (ret := (some .boolean)) (by decide) rfl ?_
  intro p e s m args below meth c s₁ B hml hv
  obtain ⟨rfl, hsz, hP, hK, hD0, hN⟩ := hv
  have hx := B.exec
  have hb := B.bytes
  have hr := B.returns
  have hts : ∀ w ∈ UW, w.before _ s = true := fun w h => atoms_spec (ws := .code yn_M_divides cd_M_divides 1 (some .boolean) :: UW) B.pre w (List.mem_cons_of_mem _ h)
  have hown : s.vm.findClass "StabilitySumsModel" = some m.cls := findClass_of_methodNamed B.named
  have hlocks := B.notSynchronized
  subst hsz
  have hD := hD0.self (sz := s.heap.size)
  generalize hAe : va_A (wM ad T t) s.heap.size = A at hD ⊢
  have hA : ∀ q : Nat, s.heap.size ≤ q → A q := fun q h => by rw [← hAe]; exact Or.inr h
  have hS : va_S A s.heap s.heap [] := va_S.rf
  have hl := lv_entry ([.int a0]) (n := 1) (Nat.le_of_ble_eq_true rfl)
  rw [lg_entry_eq]
  generalize (lg_sl ([.int a0]) ++ List.replicate (1 - (lg_sl ([.int a0])).length) Slot.unset).toArray = ls at hl ⊢
  have hl : lv_has ls 1 [(0, .int a0)] := hl
  generalize hQ : MQ below _ _ s 0 0 A = Q
  refine lv_iload_n hx hb de_M_divides_0 rfl (lv_at hl 0 rfl) ?_
  refine lv_if_eq (tgt := 14) hx hb de_M_divides_1 (by decide) (fun c_1 => ?_) (fun c_1 => ?_)
  · skip
    refine lv_iconst (v := 0) hx hb de_M_divides_14 (by decide) ?_
    subst hQ
    have hpost : bz 0 (y_div a0) := by
      first | exact Or.inl ⟨rfl, by grind⟩ | exact Or.inr ⟨rfl, by grind⟩
    exact W.zret (v := 0) hx hb hr (bz_nar hpost) (fun t9 ht hW => ⟨⟨0, (), rfl, hpost, by rw [ht]; exact hP, va_K.moved hW.alike hK, hD⟩, hS.F ht⟩) hS.2.2 de_M_divides_15
  · skip
    refine lv_iload_n hx hb de_M_divides_4 rfl (lv_at hl 0 rfl) ?_
    refine lv_bipush (v := 6) hx hb de_M_divides_5 (by decide) ?_
    refine lv_icmp_eq (tgt := 14) hx hb de_M_divides_7 (by decide) (fun c_2 => ?_) (fun c_2 => ?_)
    · skip
      refine lv_iconst (v := 0) hx hb de_M_divides_14 (by decide) ?_
      subst hQ
      have hpost : bz 0 (y_div a0) := by
        first | exact Or.inl ⟨rfl, by grind⟩ | exact Or.inr ⟨rfl, by grind⟩
      exact W.zret (v := 0) hx hb hr (bz_nar hpost) (fun t9 ht hW => ⟨⟨0, (), rfl, hpost, by rw [ht]; exact hP, va_K.moved hW.alike hK, hD⟩, hS.F ht⟩) hS.2.2 de_M_divides_15
    · skip
      refine lv_iconst (v := 1) hx hb de_M_divides_10 (by decide) ?_
      refine lv_goto (tgt := 15) hx hb de_M_divides_11 (by decide) ?_
      subst hQ
      have hpost : bz 1 (y_div a0) := by
        first | exact Or.inl ⟨rfl, by grind⟩ | exact Or.inr ⟨rfl, by grind⟩
      exact W.zret (v := 1) hx hb hr (bz_nar hpost) (fun t9 ht hW => ⟨⟨1, (), rfl, hpost, by rw [ht]; exact hP, va_K.moved hW.alike hK, hD⟩, hS.F ht⟩) hS.2.2 de_M_divides_15
