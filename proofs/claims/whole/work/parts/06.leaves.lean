set_option maxHeartbeats 4000000 in
set_option maxRecDepth 100000 in
theorem mt_S_isWithin (l : Launch) (dC : Nat → ClassId) (dI : Nat → Nat → Nat) (ad : Nat → Nat) (T : Nat → ClassId) (t : St) (a0 : Int64) (a1 : Int64) (a2 : Int64)  (sz : Nat) : Met l yn_S_isWithin (.code yn_S_isWithin cd_S_isWithin 6 (some .boolean) :: UW) ({ frames := 0, cells := 0, slots := 0, locals := 0 } : Room) (va_Pc [.long a0, .long a1, .long a2] (Pw (dC, dI) CLS (TY T) (wS ad T t) sz)) (va_Qi (fun (r : Int32) (_ : Unit) => bz r (x_in a0 a1 a2)) (Bw (dC, dI) CLS (TY T) (fun _ : Unit => (wS ad T t)) (va_A (wS ad T t) sz)) (va_A (wS ad T t) sz)) 0 0 (va_A (wS ad T t) sz) := by
  refine Met.ofW (cc := cd_S_isWithin) (maxL := 6) (ret := (some .boolean)) (by decide) rfl ?_
  intro p e s m args below meth c s₁ B hml hv
  obtain ⟨rfl, hsz, hP, hK, hD0, hN⟩ := hv
  have hx := B.exec
  have hb := B.bytes
  have hr := B.returns
  have hts : ∀ w ∈ UW, w.before _ s = true := fun w h => atoms_spec (ws := .code yn_S_isWithin cd_S_isWithin 6 (some .boolean) :: UW) B.pre w (List.mem_cons_of_mem _ h)
  have hown : s.vm.findClass "StabilitySums" = some m.cls := findClass_of_methodNamed B.named
  have hlocks := B.notSynchronized
  subst hsz
  have hD := hD0.self (sz := s.heap.size)
  generalize hAe : va_A (wS ad T t) s.heap.size = A at hD ⊢
  have hA : ∀ q : Nat, s.heap.size ≤ q → A q := fun q h => by rw [← hAe]; exact Or.inr h
  have hS : va_S A s.heap s.heap [] := va_S.rf
  have hl := lv_entry ([.long a0, .long a1, .long a2]) (n := 6) (Nat.le_of_ble_eq_true rfl)
  rw [lg_entry_eq]
  generalize (lg_sl ([.long a0, .long a1, .long a2]) ++ List.replicate (6 - (lg_sl ([.long a0, .long a1, .long a2])).length) Slot.unset).toArray = ls at hl ⊢
  have hl : lv_has ls 6 [(0, .long a0), (2, .long a1), (4, .long a2)] := hl
  generalize hQ : MQ below _ _ s 0 0 A = Q
  refine lv_lload_n hx hb de_S_isWithin_0 rfl (lv_at hl 0 rfl) ?_
  refine lv_lload_n hx hb de_S_isWithin_1 rfl (lv_at hl 1 rfl) ?_
  refine rw_lt (tgt := 17) hx hb de_S_isWithin_2 de_S_isWithin_3 (by decide) (fun c_1 => ?_) (fun c_1 => ?_)
  · skip
    refine lv_iconst (v := 0) hx hb de_S_isWithin_17 (by decide) ?_
    subst hQ
    have hpost : bz 0 (x_in a0 a1 a2) := by
      first | exact Or.inl ⟨rfl, by simp only [x_in, Int64.lt_iff_toInt_lt, Int64.le_iff_toInt_le] at *; omega⟩ | exact Or.inr ⟨rfl, by simp only [x_in, Int64.lt_iff_toInt_lt, Int64.le_iff_toInt_le] at *; omega⟩
    exact W.zret (v := 0) hx hb hr (bz_nar hpost) (fun t9 ht hW => ⟨⟨0, (), rfl, hpost, by rw [ht]; exact hP, va_K.moved hW.alike hK, hD⟩, hS.F ht⟩) hS.2.2 de_S_isWithin_18
  · skip
    refine lv_lload_n hx hb de_S_isWithin_6 rfl (lv_at hl 0 rfl) ?_
    refine lv_lload hx hb de_S_isWithin_7 (lv_at hl 2 rfl) ?_
    refine rw_gt (tgt := 17) hx hb de_S_isWithin_9 de_S_isWithin_10 (by decide) (fun c_2 => ?_) (fun c_2 => ?_)
    · skip
      refine lv_iconst (v := 0) hx hb de_S_isWithin_17 (by decide) ?_
      subst hQ
      have hpost : bz 0 (x_in a0 a1 a2) := by
        first | exact Or.inl ⟨rfl, by simp only [x_in, Int64.lt_iff_toInt_lt, Int64.le_iff_toInt_le] at *; omega⟩ | exact Or.inr ⟨rfl, by simp only [x_in, Int64.lt_iff_toInt_lt, Int64.le_iff_toInt_le] at *; omega⟩
      exact W.zret (v := 0) hx hb hr (bz_nar hpost) (fun t9 ht hW => ⟨⟨0, (), rfl, hpost, by rw [ht]; exact hP, va_K.moved hW.alike hK, hD⟩, hS.F ht⟩) hS.2.2 de_S_isWithin_18
    · skip
      refine lv_iconst (v := 1) hx hb de_S_isWithin_13 (by decide) ?_
      refine lv_goto (tgt := 18) hx hb de_S_isWithin_14 (by decide) ?_
      subst hQ
      have hpost : bz 1 (x_in a0 a1 a2) := by
        first | exact Or.inl ⟨rfl, by simp only [x_in, Int64.lt_iff_toInt_lt, Int64.le_iff_toInt_le] at *; omega⟩ | exact Or.inr ⟨rfl, by simp only [x_in, Int64.lt_iff_toInt_lt, Int64.le_iff_toInt_le] at *; omega⟩
      exact W.zret (v := 1) hx hb hr (bz_nar hpost) (fun t9 ht hW => ⟨⟨1, (), rfl, hpost, by rw [ht]; exact hP, va_K.moved hW.alike hK, hD⟩, hS.F ht⟩) hS.2.2 de_S_isWithin_18
set_option maxHeartbeats 4000000 in
set_option maxRecDepth 100000 in
theorem mt_S_isPlace (l : Launch) (dC : Nat → ClassId) (dI : Nat → Nat → Nat) (ad : Nat → Nat) (T : Nat → ClassId) (t : St) (a0 : Int64)  (sz : Nat) : Met l yn_S_isPlace (.code yn_S_isPlace cd_S_isPlace 2 (some .boolean) :: UW) ({ frames := 1, cells := 0, slots := 0, locals := 25 } : Room) (va_Pc [.long a0] (Pw (dC, dI) CLS (TY T) (wS ad T t) sz)) (va_Qi (fun (r : Int32) (_ : Unit) => bz r (x_pl a0)) (Bw (dC, dI) CLS (TY T) (fun _ : Unit => (wS ad T t)) (va_A (wS ad T t) sz)) (va_A (wS ad T t) sz)) 0 0 (va_A (wS ad T t) sz) := by
  refine Met.ofW (cc := cd_S_isPlace) (maxL := 2) (ret := (some .boolean)) (by decide) rfl ?_
  intro p e s m args below meth c s₁ B hml hv
  obtain ⟨rfl, hsz, hP, hK, hD0, hN⟩ := hv
  have hx := B.exec
  have hb := B.bytes
  have hr := B.returns
  have hts : ∀ w ∈ UW, w.before _ s = true := fun w h => atoms_spec (ws := .code yn_S_isPlace cd_S_isPlace 2 (some .boolean) :: UW) B.pre w (List.mem_cons_of_mem _ h)
  have hown : s.vm.findClass "StabilitySums" = some m.cls := findClass_of_methodNamed B.named
  have hlocks := B.notSynchronized
  subst hsz
  have hD := hD0.self (sz := s.heap.size)
  generalize hAe : va_A (wS ad T t) s.heap.size = A at hD ⊢
  have hA : ∀ q : Nat, s.heap.size ≤ q → A q := fun q h => by rw [← hAe]; exact Or.inr h
  have hS : va_S A s.heap s.heap [] := va_S.rf
  have hl := lv_entry ([.long a0]) (n := 2) (Nat.le_of_ble_eq_true rfl)
  rw [lg_entry_eq]
  generalize (lg_sl ([.long a0]) ++ List.replicate (2 - (lg_sl ([.long a0])).length) Slot.unset).toArray = ls at hl ⊢
  have hl : lv_has ls 2 [(0, .long a0)] := hl
  generalize hQ : MQ below _ _ s 0 0 A = Q
  refine lv_lload_n hx hb de_S_isPlace_0 rfl (lv_at hl 0 rfl) ?_
  refine lv_ldc2 (v := (-10000)) hx hb hown (hts _ uw_294) de_S_isPlace_1 ?_
  refine lv_ldc2 (v := 10000) hx hb hown (hts _ uw_255) de_S_isPlace_4 ?_
  refine cl_Si (As := [.long a0, .long (-10000), .long 10000]) (rest := []) ⟨hx, hb, hml, hown, hts⟩ (mt_S_isWithin l dC dI ad T t a0 (-10000) 10000) (va_cwS 3 hts (uw_S uw_295 uw_296 uw_27 uw_297) rfl rfl rfl (by decide +kernel) ⟨Nat.le_of_ble_eq_true rfl, Nat.le_of_ble_eq_true rfl⟩) rfl hl.1 rfl (by decide) de_S_isPlace_7 ⟨Nat.zero_le _, Nat.zero_le _⟩ hK hN hP hD hS hA (fun r_1 _ H locs hw_1 hP hD hS => ?_)
  have hw_1 : bz r_1 (x_in a0 (-10000) 10000) := hw_1
  subst hQ
  have hpost : bz r_1 (x_pl a0) := by
    exact hw_1
  exact W.zret (v := r_1) hx hb hr (bz_nar hpost) (fun t9 ht hW => ⟨⟨r_1, (), rfl, hpost, by rw [ht]; exact hP, va_K.moved hW.alike hK, hD⟩, hS.F ht⟩) hS.2.2 de_S_isPlace_10
set_option maxHeartbeats 4000000 in
set_option maxRecDepth 100000 in
theorem mt_S_arePlaces (l : Launch) (dC : Nat → ClassId) (dI : Nat → Nat → Nat) (ad : Nat → Nat) (T : Nat → ClassId) (t : St) (a0 : Int64) (a1 : Int64) (a2 : Int64)  (sz : Nat) : Met l yn_S_arePlaces (.code yn_S_arePlaces cd_S_arePlaces 6 (some .boolean) :: UW) ({ frames := 2, cells := 0, slots := 0, locals := 46 } : Room) (va_Pc [.long a0, .long a1, .long a2] (Pw (dC, dI) CLS (TY T) (wS ad T t) sz)) (va_Qi (fun (r : Int32) (_ : Unit) => bz r (x_pls a0 a1 a2)) (Bw (dC, dI) CLS (TY T) (fun _ : Unit => (wS ad T t)) (va_A (wS ad T t) sz)) (va_A (wS ad T t) sz)) 0 0 (va_A (wS ad T t) sz) := by
  refine Met.ofW (cc := cd_S_arePlaces) (maxL := 6) (ret := (some .boolean)) (by decide) rfl ?_
  intro p e s m args below meth c s₁ B hml hv
  obtain ⟨rfl, hsz, hP, hK, hD0, hN⟩ := hv
  have hx := B.exec
  have hb := B.bytes
  have hr := B.returns
  have hts : ∀ w ∈ UW, w.before _ s = true := fun w h => atoms_spec (ws := .code yn_S_arePlaces cd_S_arePlaces 6 (some .boolean) :: UW) B.pre w (List.mem_cons_of_mem _ h)
  have hown : s.vm.findClass "StabilitySums" = some m.cls := findClass_of_methodNamed B.named
  have hlocks := B.notSynchronized
  subst hsz
  have hD := hD0.self (sz := s.heap.size)
  generalize hAe : va_A (wS ad T t) s.heap.size = A at hD ⊢
  have hA : ∀ q : Nat, s.heap.size ≤ q → A q := fun q h => by rw [← hAe]; exact Or.inr h
  have hS : va_S A s.heap s.heap [] := va_S.rf
  have hl := lv_entry ([.long a0, .long a1, .long a2]) (n := 6) (Nat.le_of_ble_eq_true rfl)
  rw [lg_entry_eq]
  generalize (lg_sl ([.long a0, .long a1, .long a2]) ++ List.replicate (6 - (lg_sl ([.long a0, .long a1, .long a2])).length) Slot.unset).toArray = ls at hl ⊢
  have hl : lv_has ls 6 [(0, .long a0), (2, .long a1), (4, .long a2)] := hl
  generalize hQ : MQ below _ _ s 0 0 A = Q
  refine lv_lload_n hx hb de_S_arePlaces_0 rfl (lv_at hl 0 rfl) ?_
  refine cl_Si (As := [.long a0]) (rest := []) ⟨hx, hb, hml, hown, hts⟩ (mt_S_isPlace l dC dI ad T t a0) (va_cwS 1 hts (uw_S uw_291 uw_292 uw_27 uw_293) rfl rfl rfl (by decide +kernel) ⟨Nat.le_of_ble_eq_true rfl, Nat.le_of_ble_eq_true rfl⟩) rfl hl.1 rfl (by decide) de_S_arePlaces_1 ⟨Nat.zero_le _, Nat.zero_le _⟩ hK hN hP hD hS hA (fun r_1 _ H locs hw_1 hP hD hS => ?_)
  have hw_1 : bz r_1 (x_pl a0) := hw_1
  refine lv_if_eq (tgt := 26) hx hb de_S_arePlaces_4 (by decide) (fun c_2 => ?_) (fun c_2 => ?_)
  · skip
    have c_2 := bz_f hw_1 c_2
    refine lv_iconst (v := 0) hx hb de_S_arePlaces_26 (by decide) ?_
    subst hQ
    have hpost : bz 0 (x_pls a0 a1 a2) := by
      first | exact Or.inl ⟨rfl, by grind⟩ | exact Or.inr ⟨rfl, by grind⟩
    exact W.zret (v := 0) hx hb hr (bz_nar hpost) (fun t9 ht hW => ⟨⟨0, (), rfl, hpost, by rw [ht]; exact hP, va_K.moved hW.alike hK, hD⟩, hS.F ht⟩) hS.2.2 de_S_arePlaces_27
  · skip
    have c_2 := bz_t hw_1 c_2
    refine lv_lload_n hx hb de_S_arePlaces_7 rfl (lv_at hl 1 rfl) ?_
    refine cl_Si (As := [.long a1]) (rest := []) ⟨hx, hb, hml, hown, hts⟩ (mt_S_isPlace l dC dI ad T t a1) (va_cwS 1 hts (uw_S uw_291 uw_292 uw_27 uw_293) rfl rfl rfl (by decide +kernel) ⟨Nat.le_of_ble_eq_true rfl, Nat.le_of_ble_eq_true rfl⟩) rfl hl.1 rfl (by decide) de_S_arePlaces_8 ⟨Nat.zero_le _, Nat.zero_le _⟩ hK hN hP hD hS hA (fun r_3 _ H locs hw_3 hP hD hS => ?_)
    have hw_3 : bz r_3 (x_pl a1) := hw_3
    refine lv_if_eq (tgt := 26) hx hb de_S_arePlaces_11 (by decide) (fun c_4 => ?_) (fun c_4 => ?_)
    · skip
      have c_4 := bz_f hw_3 c_4
      refine lv_iconst (v := 0) hx hb de_S_arePlaces_26 (by decide) ?_
      subst hQ
      have hpost : bz 0 (x_pls a0 a1 a2) := by
        first | exact Or.inl ⟨rfl, by grind⟩ | exact Or.inr ⟨rfl, by grind⟩
      exact W.zret (v := 0) hx hb hr (bz_nar hpost) (fun t9 ht hW => ⟨⟨0, (), rfl, hpost, by rw [ht]; exact hP, va_K.moved hW.alike hK, hD⟩, hS.F ht⟩) hS.2.2 de_S_arePlaces_27
    · skip
      have c_4 := bz_t hw_3 c_4
      refine lv_lload hx hb de_S_arePlaces_14 (lv_at hl 2 rfl) ?_
      refine cl_Si (As := [.long a2]) (rest := []) ⟨hx, hb, hml, hown, hts⟩ (mt_S_isPlace l dC dI ad T t a2) (va_cwS 1 hts (uw_S uw_291 uw_292 uw_27 uw_293) rfl rfl rfl (by decide +kernel) ⟨Nat.le_of_ble_eq_true rfl, Nat.le_of_ble_eq_true rfl⟩) rfl hl.1 rfl (by decide) de_S_arePlaces_16 ⟨Nat.zero_le _, Nat.zero_le _⟩ hK hN hP hD hS hA (fun r_5 _ H locs hw_5 hP hD hS => ?_)
      have hw_5 : bz r_5 (x_pl a2) := hw_5
      refine lv_if_eq (tgt := 26) hx hb de_S_arePlaces_19 (by decide) (fun c_6 => ?_) (fun c_6 => ?_)
      · skip
        have c_6 := bz_f hw_5 c_6
        refine lv_iconst (v := 0) hx hb de_S_arePlaces_26 (by decide) ?_
        subst hQ
        have hpost : bz 0 (x_pls a0 a1 a2) := by
          first | exact Or.inl ⟨rfl, by grind⟩ | exact Or.inr ⟨rfl, by grind⟩
        exact W.zret (v := 0) hx hb hr (bz_nar hpost) (fun t9 ht hW => ⟨⟨0, (), rfl, hpost, by rw [ht]; exact hP, va_K.moved hW.alike hK, hD⟩, hS.F ht⟩) hS.2.2 de_S_arePlaces_27
      · skip
        have c_6 := bz_t hw_5 c_6
        refine lv_iconst (v := 1) hx hb de_S_arePlaces_22 (by decide) ?_
        refine lv_goto (tgt := 27) hx hb de_S_arePlaces_23 (by decide) ?_
        subst hQ
        have hpost : bz 1 (x_pls a0 a1 a2) := by
          first | exact Or.inl ⟨rfl, by grind⟩ | exact Or.inr ⟨rfl, by grind⟩
        exact W.zret (v := 1) hx hb hr (bz_nar hpost) (fun t9 ht hW => ⟨⟨1, (), rfl, hpost, by rw [ht]; exact hP, va_K.moved hW.alike hK, hD⟩, hS.F ht⟩) hS.2.2 de_S_arePlaces_27
set_option maxHeartbeats 4000000 in
set_option maxRecDepth 100000 in
theorem mt_J_floorDiv (l : Launch) (dC : Nat → ClassId) (dI : Nat → Nat → Nat) (ad : Nat → Nat) (T : Nat → ClassId) (t : St) (a0 : Int64) (a1 : Int64) (h1 : ¬ a1 = 0) (sz : Nat) : Met l yn_J_floorDiv (.code yn_J_floorDiv cd_J_floorDiv 6 (some .long) :: UW) ({ frames := 0, cells := 0, slots := 0, locals := 0 } : Room) (va_Pc [.long a0, .long a1] (Pw (dC, dI) CLS (TY T) (wS ad T t) sz)) (va_Ql (fun (r : Int64) (_ : Unit) => r = x_fdiv a0 a1) (Bw (dC, dI) CLS (TY T) (fun _ : Unit => (wS ad T t)) (va_A (wS ad T t) sz)) (va_A (wS ad T t) sz)) 0 0 (va_A (wS ad T t) sz) := by
  refine va_MetF (cc := cd_J_floorDiv) (maxL := 6) (ret := (some .long)) (by decide +kernel) rfl ?_
  intro p e s m args below meth c s₁ B hml hv
  obtain ⟨rfl, hsz, hP, hK, hD0, hN⟩ := hv
  have hx := B.exec
  have hb := B.bytes
  have hr := B.returns
  have hts : ∀ w ∈ UW, w.before _ s = true := fun w h => atoms_spec (ws := .code yn_J_floorDiv cd_J_floorDiv 6 (some .long) :: UW) B.pre w (List.mem_cons_of_mem _ h)
  have hown : s.vm.findClass "java/lang/Math" = some m.cls := findClass_of_methodNamed B.named
  have hlocks := B.notSynchronized
  subst hsz
  have hD := hD0.self (sz := s.heap.size)
  generalize hAe : va_A (wS ad T t) s.heap.size = A at hD ⊢
  have hA : ∀ q : Nat, s.heap.size ≤ q → A q := fun q h => by rw [← hAe]; exact Or.inr h
  have hS : va_S A s.heap s.heap [] := va_S.rf
  have hl := lv_entry ([.long a0, .long a1]) (n := 6) (Nat.le_of_ble_eq_true rfl)
  rw [lg_entry_eq]
  generalize (lg_sl ([.long a0, .long a1]) ++ List.replicate (6 - (lg_sl ([.long a0, .long a1])).length) Slot.unset).toArray = ls at hl ⊢
  have hl : lv_has ls 6 [(0, .long a0), (2, .long a1)] := hl
  generalize hQ : MQ below _ _ s 0 0 A = Q
  refine lv_lload_n hx hb de_J_floorDiv_0 rfl (lv_at hl 0 rfl) ?_
  refine lv_lload_n hx hb de_J_floorDiv_1 rfl (lv_at hl 1 rfl) ?_
  refine lv_ldiv hx hb de_J_floorDiv_2 h1 ?_
  refine lv_topl (fun v_1 ev_1 => ?_)
  have ev_1 : v_1 = a0 / a1 := ev_1
  refine lv_lstore (lv' := [(4, .long v_1), (0, .long a0), (2, .long a1)]) hx hb de_J_floorDiv_3 hl (by decide) rfl (fun ls hl => ?_)
  refine lv_lload_n hx hb de_J_floorDiv_5 rfl (lv_at hl 1 rfl) ?_
  refine lv_lload_n hx hb de_J_floorDiv_6 rfl (lv_at hl 2 rfl) ?_
  refine lv_lxor hx hb de_J_floorDiv_7 ?_
  refine lv_topl (fun v_2 ev_2 => ?_)
  have ev_2 : v_2 = a0 ^^^ a1 := ev_2
  refine lv_lconst (v := 0) hx hb de_J_floorDiv_8 (by decide) ?_
  refine rw_ge (tgt := 27) hx hb de_J_floorDiv_9 de_J_floorDiv_10 (by decide) (fun c_3 => ?_) (fun c_3 => ?_)
  · skip
    refine lv_lload hx hb de_J_floorDiv_27 (lv_at hl 0 rfl) ?_
    subst hQ
    have hpost : v_1 = x_fdiv a0 a1 := by
      subst_vars; simp only [x_fdiv]; grind
    exact W.lret (v := v_1) hx hb hr (fun t9 ht hW => ⟨⟨v_1, (), rfl, hpost, by rw [ht]; exact hP, va_K.moved hW.alike hK, hD⟩, hS.F ht⟩) hS.2.2 de_J_floorDiv_29
  · skip
    refine lv_lload hx hb de_J_floorDiv_13 (lv_at hl 0 rfl) ?_
    refine lv_lload_n hx hb de_J_floorDiv_15 rfl (lv_at hl 2 rfl) ?_
    refine lv_lmul hx hb de_J_floorDiv_16 ?_
    refine lv_topl (fun v_4 ev_4 => ?_)
    have ev_4 : v_4 = v_1 * a1 := ev_4
    refine lv_lload_n hx hb de_J_floorDiv_17 rfl (lv_at hl 1 rfl) ?_
    refine rw_eq (tgt := 27) hx hb de_J_floorDiv_18 de_J_floorDiv_19 (by decide) (fun c_5 => ?_) (fun c_5 => ?_)
    · skip
      refine lv_lload hx hb de_J_floorDiv_27 (lv_at hl 0 rfl) ?_
      subst hQ
      have hpost : v_1 = x_fdiv a0 a1 := by
        subst_vars; simp only [x_fdiv]; grind
      exact W.lret (v := v_1) hx hb hr (fun t9 ht hW => ⟨⟨v_1, (), rfl, hpost, by rw [ht]; exact hP, va_K.moved hW.alike hK, hD⟩, hS.F ht⟩) hS.2.2 de_J_floorDiv_29
    · skip
      refine lv_lload hx hb de_J_floorDiv_22 (lv_at hl 0 rfl) ?_
      refine lv_lconst (v := 1) hx hb de_J_floorDiv_24 (by decide) ?_
      refine lv_lsub hx hb de_J_floorDiv_25 ?_
      refine lv_topl (fun v_6 ev_6 => ?_)
      have ev_6 : v_6 = v_1 - 1 := ev_6
      subst hQ
      have hpost : v_6 = x_fdiv a0 a1 := by
        subst_vars; simp only [x_fdiv]; grind
      exact W.lret (v := v_6) hx hb hr (fun t9 ht hW => ⟨⟨v_6, (), rfl, hpost, by rw [ht]; exact hP, va_K.moved hW.alike hK, hD⟩, hS.F ht⟩) hS.2.2 de_J_floorDiv_26
set_option maxHeartbeats 4000000 in
set_option maxRecDepth 100000 in
theorem mt_S_divideDown (l : Launch) (dC : Nat → ClassId) (dI : Nat → Nat → Nat) (ad : Nat → Nat) (T : Nat → ClassId) (t : St) (a0 : Int64) (a1 : Int64)  (sz : Nat) : Met l yn_S_divideDown (.code yn_S_divideDown cd_S_divideDown 4 (some .long) :: UW) ({ frames := 1, cells := 0, slots := 0, locals := 25 } : Room) (va_Pc [.long a0, .long a1] (Pw (dC, dI) CLS (TY T) (wS ad T t) sz)) (va_Ql (fun (r : Int64) (_ : Unit) => r = x_dd a0 a1) (Bw (dC, dI) CLS (TY T) (fun _ : Unit => (wS ad T t)) (va_A (wS ad T t) sz)) (va_A (wS ad T t) sz)) 0 0 (va_A (wS ad T t) sz) := by
  refine Met.ofW (cc := cd_S_divideDown) (maxL := 4) (ret := (some .long)) (by decide) rfl ?_
  intro p e s m args below meth c s₁ B hml hv
  obtain ⟨rfl, hsz, hP, hK, hD0, hN⟩ := hv
  have hx := B.exec
  have hb := B.bytes
  have hr := B.returns
  have hts : ∀ w ∈ UW, w.before _ s = true := fun w h => atoms_spec (ws := .code yn_S_divideDown cd_S_divideDown 4 (some .long) :: UW) B.pre w (List.mem_cons_of_mem _ h)
  have hown : s.vm.findClass "StabilitySums" = some m.cls := findClass_of_methodNamed B.named
  have hlocks := B.notSynchronized
  subst hsz
  have hD := hD0.self (sz := s.heap.size)
  generalize hAe : va_A (wS ad T t) s.heap.size = A at hD ⊢
  have hA : ∀ q : Nat, s.heap.size ≤ q → A q := fun q h => by rw [← hAe]; exact Or.inr h
  have hS : va_S A s.heap s.heap [] := va_S.rf
  have hl := lv_entry ([.long a0, .long a1]) (n := 4) (Nat.le_of_ble_eq_true rfl)
  rw [lg_entry_eq]
  generalize (lg_sl ([.long a0, .long a1]) ++ List.replicate (4 - (lg_sl ([.long a0, .long a1])).length) Slot.unset).toArray = ls at hl ⊢
  have hl : lv_has ls 4 [(0, .long a0), (2, .long a1)] := hl
  generalize hQ : MQ below _ _ s 0 0 A = Q
  refine lv_lload_n hx hb de_S_divideDown_0 rfl (lv_at hl 1 rfl) ?_
  refine lv_lconst (v := 0) hx hb de_S_divideDown_1 (by decide) ?_
  refine rw_le (tgt := 14) hx hb de_S_divideDown_2 de_S_divideDown_3 (by decide) (fun c_1 => ?_) (fun c_1 => ?_)
  · skip
    refine lv_lconst (v := 0) hx hb de_S_divideDown_14 (by decide) ?_
    subst hQ
    have hpost : 0 = x_dd a0 a1 := by
      subst_vars; simp only [x_dd]; grind
    exact W.lret (v := 0) hx hb hr (fun t9 ht hW => ⟨⟨0, (), rfl, hpost, by rw [ht]; exact hP, va_K.moved hW.alike hK, hD⟩, hS.F ht⟩) hS.2.2 de_S_divideDown_15
  · skip
    refine lv_lload_n hx hb de_S_divideDown_6 rfl (lv_at hl 0 rfl) ?_
    refine lv_lload_n hx hb de_S_divideDown_7 rfl (lv_at hl 1 rfl) ?_
    refine cl_Sl (As := [.long a0, .long a1]) (rest := []) ⟨hx, hb, hml, hown, hts⟩ (mt_J_floorDiv l dC dI ad T t a0 a1 (fun z => c_1 (by rw [z]; decide))) (va_cwS 2 hts (uw_S uw_356 uw_357 uw_43 uw_358) rfl rfl rfl (by decide +kernel) ⟨Nat.le_of_ble_eq_true rfl, Nat.le_of_ble_eq_true rfl⟩) rfl hl.1 rfl (by decide) de_S_divideDown_8 ⟨Nat.zero_le _, Nat.zero_le _⟩ hK hN hP hD hS hA (fun r_2 _ H locs hw_2 hP hD hS => ?_)
    have hw_2 : r_2 = x_fdiv a0 a1 := hw_2
    refine lv_goto (tgt := 15) hx hb de_S_divideDown_11 (by decide) ?_
    subst hQ
    have hpost : r_2 = x_dd a0 a1 := by
      subst_vars; simp only [x_dd]; grind
    exact W.lret (v := r_2) hx hb hr (fun t9 ht hW => ⟨⟨r_2, (), rfl, hpost, by rw [ht]; exact hP, va_K.moved hW.alike hK, hD⟩, hS.F ht⟩) hS.2.2 de_S_divideDown_15
set_option maxHeartbeats 4000000 in
set_option maxRecDepth 100000 in
theorem mt_U_clear (l : Launch) (dC : Nat → ClassId) (dI : Nat → Nat → Nat) (ad : Nat → Nat) (T : Nat → ClassId) (t : St)   (sz : Nat) : Met l yn_U_clear (.code yn_U_clear cd_U_clear 1 none :: UW) ({ frames := 0, cells := 0, slots := 0, locals := 0 } : Room) (va_Pc [.ref (ad 6)] (Pw (dC, dI) CLS (TY T) (wS ad T t) sz)) (va_Qv (fun _ : Unit => True) (Bw (dC, dI) CLS (TY T) (fun _ : Unit => (wS ad T (x_uclr t))) (va_A (wS ad T t) sz)) (va_A (wS ad T t) sz)) 0 0 (va_A (wS ad T t) sz) := by
  refine Met.ofW (cc := cd_U_clear) (maxL := 1) (ret := none) (by decide) rfl ?_
  intro p e s m args below meth c s₁ B hml hv
  obtain ⟨rfl, hsz, hP, hK, hD0, hN⟩ := hv
  have hx := B.exec
  have hb := B.bytes
  have hr := B.returns
  have hts : ∀ w ∈ UW, w.before _ s = true := fun w h => atoms_spec (ws := .code yn_U_clear cd_U_clear 1 none :: UW) B.pre w (List.mem_cons_of_mem _ h)
  have hown : s.vm.findClass "StabilitySums$Sums" = some m.cls := findClass_of_methodNamed B.named
  have hlocks := B.notSynchronized
  subst hsz
  have hD := hD0.self (sz := s.heap.size)
  generalize hAe : va_A (wS ad T t) s.heap.size = A at hD ⊢
  have hA : ∀ q : Nat, s.heap.size ≤ q → A q := fun q h => by rw [← hAe]; exact Or.inr h
  have hS : va_S A s.heap s.heap [] := va_S.rf
  have hl := lv_entry ([.ref (ad 6)]) (n := 1) (Nat.le_of_ble_eq_true rfl)
  rw [lg_entry_eq]
  generalize (lg_sl ([.ref (ad 6)]) ++ List.replicate (1 - (lg_sl ([.ref (ad 6)])).length) Slot.unset).toArray = ls at hl ⊢
  have hl : lv_has ls 1 [(0, .ref (ad 6))] := hl
  generalize hQ : MQ below _ _ s 0 0 A = Q
  refine lv_aload_n hx hb de_U_clear_0 rfl (lv_at hl 0 rfl) ?_
  refine lv_lconst (v := 0) hx hb de_U_clear_1 (by decide) ?_
  refine va_put (D := (dC, dI)) (ci := 6) (v := .long 0) (ty := .long) (C := "StabilitySums$Sums") (T := TB_U) (N := 5) hx hb hts ui_U tt_U tk_U nm_U hown hK hP hD hS 6 rfl rfl 0 (by decide) (hts _ uw_197) (fun _ h9 => h9) rfl (by decide +kernel) rfl rfl (Nat.le_of_ble_eq_true rfl) de_U_clear_2 (fun H locs hP hD hS => ?_)
  have hP : va_P (dC, dI) CLS (wS ad T (sF t 2 0)) H := hP
  have hD : va_D A (wS ad T (sF t 2 0)) := hD
  refine lv_aload_n hx hb de_U_clear_5 rfl (lv_at hl 0 rfl) ?_
  refine lv_lconst (v := 0) hx hb de_U_clear_6 (by decide) ?_
  refine va_put (D := (dC, dI)) (ci := 6) (v := .long 0) (ty := .long) (C := "StabilitySums$Sums") (T := TB_U) (N := 5) hx hb hts ui_U tt_U tk_U nm_U hown hK hP hD hS 6 rfl rfl 1 (by decide) (hts _ uw_199) (fun _ h9 => h9) rfl (by decide +kernel) rfl rfl (Nat.le_of_ble_eq_true rfl) de_U_clear_7 (fun H locs hP hD hS => ?_)
  have hP : va_P (dC, dI) CLS (wS ad T (sF (sF t 2 0) 3 0)) H := hP
  have hD : va_D A (wS ad T (sF (sF t 2 0) 3 0)) := hD
  refine lv_aload_n hx hb de_U_clear_10 rfl (lv_at hl 0 rfl) ?_
  refine lv_lconst (v := 0) hx hb de_U_clear_11 (by decide) ?_
  refine va_put (D := (dC, dI)) (ci := 6) (v := .long 0) (ty := .long) (C := "StabilitySums$Sums") (T := TB_U) (N := 5) hx hb hts ui_U tt_U tk_U nm_U hown hK hP hD hS 6 rfl rfl 2 (by decide) (hts _ uw_201) (fun _ h9 => h9) rfl (by decide +kernel) rfl rfl (Nat.le_of_ble_eq_true rfl) de_U_clear_12 (fun H locs hP hD hS => ?_)
  have hP : va_P (dC, dI) CLS (wS ad T (sF (sF (sF t 2 0) 3 0) 4 0)) H := hP
  have hD : va_D A (wS ad T (sF (sF (sF t 2 0) 3 0) 4 0)) := hD
  refine lv_aload_n hx hb de_U_clear_15 rfl (lv_at hl 0 rfl) ?_
  refine lv_lconst (v := 0) hx hb de_U_clear_16 (by decide) ?_
  refine va_put (D := (dC, dI)) (ci := 6) (v := .long 0) (ty := .long) (C := "StabilitySums$Sums") (T := TB_U) (N := 5) hx hb hts ui_U tt_U tk_U nm_U hown hK hP hD hS 6 rfl rfl 3 (by decide) (hts _ uw_203) (fun _ h9 => h9) rfl (by decide +kernel) rfl rfl (Nat.le_of_ble_eq_true rfl) de_U_clear_17 (fun H locs hP hD hS => ?_)
  have hP : va_P (dC, dI) CLS (wS ad T (sF (sF (sF (sF t 2 0) 3 0) 4 0) 5 0)) H := hP
  have hD : va_D A (wS ad T (sF (sF (sF (sF t 2 0) 3 0) 4 0) 5 0)) := hD
  refine lv_aload_n hx hb de_U_clear_20 rfl (lv_at hl 0 rfl) ?_
  refine lv_lconst (v := 0) hx hb de_U_clear_21 (by decide) ?_
  refine va_put (D := (dC, dI)) (ci := 6) (v := .long 0) (ty := .long) (C := "StabilitySums$Sums") (T := TB_U) (N := 5) hx hb hts ui_U tt_U tk_U nm_U hown hK hP hD hS 6 rfl rfl 4 (by decide) (hts _ uw_205) (fun _ h9 => h9) rfl (by decide +kernel) rfl rfl (Nat.le_of_ble_eq_true rfl) de_U_clear_22 (fun H locs hP hD hS => ?_)
  have hP : va_P (dC, dI) CLS (wS ad T (sF (sF (sF (sF (sF t 2 0) 3 0) 4 0) 5 0) 6 0)) H := hP
  have hD : va_D A (wS ad T (sF (sF (sF (sF (sF t 2 0) 3 0) 4 0) 5 0) 6 0)) := hD
  have hfin : (sF (sF (sF (sF (sF t 2 0) 3 0) 4 0) 5 0) 6 0) = x_uclr t := by
    rfl
  rw [hfin] at hP hD
  subst hQ
  exact W.vret hx hb hr (fun t9 ht hW => ⟨⟨(), rfl, trivial, by rw [ht]; exact hP, va_K.moved hW.alike hK, hD⟩, hS.F ht⟩) hS.2.2 de_U_clear_25
set_option maxHeartbeats 4000000 in
set_option maxRecDepth 100000 in
theorem mt_U_add (l : Launch) (dC : Nat → ClassId) (dI : Nat → Nat → Nat) (ad : Nat → Nat) (T : Nat → ClassId) (t : St) (a0 : Int64) (a1 : Int64) (a2 : Int64) (a3 : Int64)  (sz : Nat) : Met l yn_U_add (.code yn_U_add cd_U_add 9 none :: UW) ({ frames := 0, cells := 0, slots := 0, locals := 0 } : Room) (va_Pc [.ref (ad 6), .long a0, .long a1, .long a2, .long a3] (Pw (dC, dI) CLS (TY T) (wS ad T t) sz)) (va_Qv (fun _ : Unit => True) (Bw (dC, dI) CLS (TY T) (fun _ : Unit => (wS ad T (x_uadd a0 a1 a2 a3 t))) (va_A (wS ad T t) sz)) (va_A (wS ad T t) sz)) 0 0 (va_A (wS ad T t) sz) := by
  refine Met.ofW (cc := cd_U_add) (maxL := 9) (ret := none) (by decide) rfl ?_
  intro p e s m args below meth c s₁ B hml hv
  obtain ⟨rfl, hsz, hP, hK, hD0, hN⟩ := hv
  have hx := B.exec
  have hb := B.bytes
  have hr := B.returns
  have hts : ∀ w ∈ UW, w.before _ s = true := fun w h => atoms_spec (ws := .code yn_U_add cd_U_add 9 none :: UW) B.pre w (List.mem_cons_of_mem _ h)
  have hown : s.vm.findClass "StabilitySums$Sums" = some m.cls := findClass_of_methodNamed B.named
  have hlocks := B.notSynchronized
  subst hsz
  have hD := hD0.self (sz := s.heap.size)
  generalize hAe : va_A (wS ad T t) s.heap.size = A at hD ⊢
  have hA : ∀ q : Nat, s.heap.size ≤ q → A q := fun q h => by rw [← hAe]; exact Or.inr h
  have hS : va_S A s.heap s.heap [] := va_S.rf
  have hl := lv_entry ([.ref (ad 6), .long a0, .long a1, .long a2, .long a3]) (n := 9) (Nat.le_of_ble_eq_true rfl)
  rw [lg_entry_eq]
  generalize (lg_sl ([.ref (ad 6), .long a0, .long a1, .long a2, .long a3]) ++ List.replicate (9 - (lg_sl ([.ref (ad 6), .long a0, .long a1, .long a2, .long a3])).length) Slot.unset).toArray = ls at hl ⊢
  have hl : lv_has ls 9 [(0, .ref (ad 6)), (1, .long a0), (3, .long a1), (5, .long a2), (7, .long a3)] := hl
  generalize hQ : MQ below _ _ s 0 0 A = Q
  refine lv_aload_n hx hb de_U_add_0 rfl (lv_at hl 0 rfl) ?_
  refine lv_dup hx hb de_U_add_1 rfl ?_
  refine va_get (D := (dC, dI)) (ci := 6) (v := .long (t.2.2.1 2)) (C := "StabilitySums$Sums") (T := TB_U) (N := 5) hx hb hts ui_U hown hK hP 6 rfl rfl 0 (by decide) (hts _ uw_197) (fun _ h9 => h9) rfl de_U_add_2 ?_
  refine lv_lload_n hx hb de_U_add_5 rfl (lv_at hl 1 rfl) ?_
  refine lv_ladd hx hb de_U_add_6 ?_
  refine lv_topl (fun v_1 ev_1 => ?_)
  have ev_1 : v_1 = (t.2.2.1 2) + a0 := ev_1
  refine va_put (D := (dC, dI)) (ci := 6) (v := .long v_1) (ty := .long) (C := "StabilitySums$Sums") (T := TB_U) (N := 5) hx hb hts ui_U tt_U tk_U nm_U hown hK hP hD hS 6 rfl rfl 0 (by decide) (hts _ uw_197) (fun _ h9 => h9) rfl (by decide +kernel) rfl rfl (Nat.le_of_ble_eq_true rfl) de_U_add_7 (fun H locs hP hD hS => ?_)
  have hP : va_P (dC, dI) CLS (wS ad T (sF t 2 v_1)) H := hP
  have hD : va_D A (wS ad T (sF t 2 v_1)) := hD
  refine lv_aload_n hx hb de_U_add_10 rfl (lv_at hl 0 rfl) ?_
  refine lv_dup hx hb de_U_add_11 rfl ?_
  refine va_get (D := (dC, dI)) (ci := 6) (v := .long (t.2.2.1 3)) (C := "StabilitySums$Sums") (T := TB_U) (N := 5) hx hb hts ui_U hown hK hP 6 rfl rfl 1 (by decide) (hts _ uw_199) (fun _ h9 => h9) rfl de_U_add_12 ?_
  refine lv_lload_n hx hb de_U_add_15 rfl (lv_at hl 1 rfl) ?_
  refine lv_lload_n hx hb de_U_add_16 rfl (lv_at hl 2 rfl) ?_
  refine lv_lmul hx hb de_U_add_17 ?_
  refine lv_topl (fun v_2 ev_2 => ?_)
  have ev_2 : v_2 = a0 * a1 := ev_2
  refine lv_ladd hx hb de_U_add_18 ?_
  refine lv_topl (fun v_3 ev_3 => ?_)
  have ev_3 : v_3 = (t.2.2.1 3) + v_2 := ev_3
  refine va_put (D := (dC, dI)) (ci := 6) (v := .long v_3) (ty := .long) (C := "StabilitySums$Sums") (T := TB_U) (N := 5) hx hb hts ui_U tt_U tk_U nm_U hown hK hP hD hS 6 rfl rfl 1 (by decide) (hts _ uw_199) (fun _ h9 => h9) rfl (by decide +kernel) rfl rfl (Nat.le_of_ble_eq_true rfl) de_U_add_19 (fun H locs hP hD hS => ?_)
  have hP : va_P (dC, dI) CLS (wS ad T (sF (sF t 2 v_1) 3 v_3)) H := hP
  have hD : va_D A (wS ad T (sF (sF t 2 v_1) 3 v_3)) := hD
  refine lv_aload_n hx hb de_U_add_22 rfl (lv_at hl 0 rfl) ?_
  refine lv_dup hx hb de_U_add_23 rfl ?_
  refine va_get (D := (dC, dI)) (ci := 6) (v := .long (t.2.2.1 4)) (C := "StabilitySums$Sums") (T := TB_U) (N := 5) hx hb hts ui_U hown hK hP 6 rfl rfl 2 (by decide) (hts _ uw_201) (fun _ h9 => h9) rfl de_U_add_24 ?_
  refine lv_lload_n hx hb de_U_add_27 rfl (lv_at hl 1 rfl) ?_
  refine lv_lload hx hb de_U_add_28 (lv_at hl 3 rfl) ?_
  refine lv_lmul hx hb de_U_add_30 ?_
  refine lv_topl (fun v_4 ev_4 => ?_)
  have ev_4 : v_4 = a0 * a2 := ev_4
  refine lv_ladd hx hb de_U_add_31 ?_
  refine lv_topl (fun v_5 ev_5 => ?_)
  have ev_5 : v_5 = (t.2.2.1 4) + v_4 := ev_5
  refine va_put (D := (dC, dI)) (ci := 6) (v := .long v_5) (ty := .long) (C := "StabilitySums$Sums") (T := TB_U) (N := 5) hx hb hts ui_U tt_U tk_U nm_U hown hK hP hD hS 6 rfl rfl 2 (by decide) (hts _ uw_201) (fun _ h9 => h9) rfl (by decide +kernel) rfl rfl (Nat.le_of_ble_eq_true rfl) de_U_add_32 (fun H locs hP hD hS => ?_)
  have hP : va_P (dC, dI) CLS (wS ad T (sF (sF (sF t 2 v_1) 3 v_3) 4 v_5)) H := hP
  have hD : va_D A (wS ad T (sF (sF (sF t 2 v_1) 3 v_3) 4 v_5)) := hD
  refine lv_aload_n hx hb de_U_add_35 rfl (lv_at hl 0 rfl) ?_
  refine lv_dup hx hb de_U_add_36 rfl ?_
  refine va_get (D := (dC, dI)) (ci := 6) (v := .long (t.2.2.1 5)) (C := "StabilitySums$Sums") (T := TB_U) (N := 5) hx hb hts ui_U hown hK hP 6 rfl rfl 3 (by decide) (hts _ uw_203) (fun _ h9 => h9) rfl de_U_add_37 ?_
  refine lv_lload_n hx hb de_U_add_40 rfl (lv_at hl 1 rfl) ?_
  refine lv_lload hx hb de_U_add_41 (lv_at hl 4 rfl) ?_
  refine lv_lmul hx hb de_U_add_43 ?_
  refine lv_topl (fun v_6 ev_6 => ?_)
  have ev_6 : v_6 = a0 * a3 := ev_6
  refine lv_ladd hx hb de_U_add_44 ?_
  refine lv_topl (fun v_7 ev_7 => ?_)
  have ev_7 : v_7 = (t.2.2.1 5) + v_6 := ev_7
  refine va_put (D := (dC, dI)) (ci := 6) (v := .long v_7) (ty := .long) (C := "StabilitySums$Sums") (T := TB_U) (N := 5) hx hb hts ui_U tt_U tk_U nm_U hown hK hP hD hS 6 rfl rfl 3 (by decide) (hts _ uw_203) (fun _ h9 => h9) rfl (by decide +kernel) rfl rfl (Nat.le_of_ble_eq_true rfl) de_U_add_45 (fun H locs hP hD hS => ?_)
  have hP : va_P (dC, dI) CLS (wS ad T (sF (sF (sF (sF t 2 v_1) 3 v_3) 4 v_5) 5 v_7)) H := hP
  have hD : va_D A (wS ad T (sF (sF (sF (sF t 2 v_1) 3 v_3) 4 v_5) 5 v_7)) := hD
  have hfin : (sF (sF (sF (sF t 2 v_1) 3 v_3) 4 v_5) 5 v_7) = x_uadd a0 a1 a2 a3 t := by
    subst_vars; rfl
  rw [hfin] at hP hD
  subst hQ
  exact W.vret hx hb hr (fun t9 ht hW => ⟨⟨(), rfl, trivial, by rw [ht]; exact hP, va_K.moved hW.alike hK, hD⟩, hS.F ht⟩) hS.2.2 de_U_add_48
set_option maxHeartbeats 4000000 in
set_option maxRecDepth 100000 in
theorem mt_C_clear (l : Launch) (dC : Nat → ClassId) (dI : Nat → Nat → Nat) (ad : Nat → Nat) (T : Nat → ClassId) (t : St) (k : Nat) (hk0 : k ≤ 10) (sz : Nat) : Met l yn_C_clear (.code yn_C_clear cd_C_clear 3 none :: UW) ({ frames := 1, cells := 0, slots := 0, locals := 21 } : Room) (va_Pc [.ref (ad 7), .int (nI k)] (Pw (dC, dI) CLS (TY T) (wS ad T t) sz)) (va_Qv (fun _ : Unit => True) (Bw (dC, dI) CLS (TY T) (fun _ : Unit => (wS ad T (x_cclr (k + 1) 0 (sN t 5 k)))) (va_A (wS ad T t) sz)) (va_A (wS ad T t) sz)) 0 0 (va_A (wS ad T t) sz) := by
  refine Met.ofW (cc := cd_C_clear) (maxL := 3) (ret := none) (by decide) rfl ?_
  intro p e s m args below meth c s₁ B hml hv
  obtain ⟨rfl, hsz, hP, hK, hD0, hN⟩ := hv
  have hx := B.exec
  have hb := B.bytes
  have hr := B.returns
  have hts : ∀ w ∈ UW, w.before _ s = true := fun w h => atoms_spec (ws := .code yn_C_clear cd_C_clear 3 none :: UW) B.pre w (List.mem_cons_of_mem _ h)
  have hown : s.vm.findClass "StabilitySums$Cuts" = some m.cls := findClass_of_methodNamed B.named
  have hlocks := B.notSynchronized
  subst hsz
  have hD := hD0.self (sz := s.heap.size)
  generalize hAe : va_A (wS ad T t) s.heap.size = A at hD ⊢
  have hA : ∀ q : Nat, s.heap.size ≤ q → A q := fun q h => by rw [← hAe]; exact Or.inr h
  have hS : va_S A s.heap s.heap [] := va_S.rf
  have hl := lv_entry ([.ref (ad 7), .int (nI k)]) (n := 3) (Nat.le_of_ble_eq_true rfl)
  rw [lg_entry_eq]
  generalize (lg_sl ([.ref (ad 7), .int (nI k)]) ++ List.replicate (3 - (lg_sl ([.ref (ad 7), .int (nI k)])).length) Slot.unset).toArray = ls at hl ⊢
  have hl : lv_has ls 3 [(0, .ref (ad 7)), (1, .int (nI k))] := hl
  generalize hQ : MQ below _ _ s 0 0 A = Q
  refine lv_aload_n hx hb de_C_clear_0 rfl (lv_at hl 0 rfl) ?_
  refine lv_iload_n hx hb de_C_clear_1 rfl (lv_at hl 1 rfl) ?_
  refine lv_bipush (v := 10) hx hb de_C_clear_2 (by decide) ?_
  refine va_mmin hx hb (hml.trans hl.1.symm) hown (hts _ uw_314) (hts _ uw_315) (hts _ uw_43) (hts _ uw_316) (Nat.le_of_ble_eq_true rfl) (Nat.le_of_ble_eq_true rfl) (Nat.zero_le _) (Nat.zero_le _) de_C_clear_4 ?_
  refine lv_topi (fun v_1 ev_1 => ?_)
  have ev_1 : v_1 = (if 10 < (nI k) then 10 else (nI k)) := ev_1
  have hnat_7 : v_1 = nI k := by rw [ev_1, if_neg]; exact fun z => absurd ((nI_ltI (a := 10) (b := k) (by omega) (by omega)).mp z) (by omega)
  rw [hnat_7]
  refine va_put (D := (dC, dI)) (ci := 7) (v := .int (nI k)) (ty := .int) (C := "StabilitySums$Cuts") (T := TB_C) (N := 4) hx hb hts ui_C tt_C tk_C nm_C hown hK hP hD hS 7 rfl rfl 3 (by decide) (hts _ uw_230) (fun _ h9 => h9) rfl (by decide +kernel) rfl rfl (Nat.le_of_ble_eq_true rfl) de_C_clear_7 (fun H locs hP hD hS => ?_)
  have hP : va_P (dC, dI) CLS (wS ad T (sN t 5 k)) H := hP
  have hD : va_D A (wS ad T (sN t 5 k)) := hD
  refine lv_iconst (v := 0) hx hb de_C_clear_10 (by decide) ?_
  refine lv_istore_n (lv' := [(2, .int 0), (0, .ref (ad 7)), (1, .int (nI k))]) hx hb de_C_clear_11 rfl hl (by decide) rfl (fun ls hl => ?_)
  have loop_12 : ∀ (n : Nat) (i : Nat) (t1 : St), (i + n = k + 1) → (t1.2.2.2 5 = k) → (x_cclr n i t1 = x_cclr (k + 1) 0 (sN t 5 k)) → ∀ (H : Heap) (locs : List Loc) (ls : Array Slot), va_P (dC, dI) CLS (wS ad T t1) H → va_D A (wS ad T t1) → va_S A s.heap H locs → lv_has ls 3 [(0, .ref (ad 7)), (2, .int (nI i))] → W p l e (headSpec (.code yn_C_clear cd_C_clear 3 none :: UW) ({ frames := 1, cells := 0, slots := 0, locals := 21 } : Room)).room s m ([.ref (ad 7), .int (nI k)] : List Value).toArray below meth c H locs 0 0 Q (F0 m 12 ls []) := by
    intro n
    induction n with
    | zero =>
      intro i t1 hi hk hq H locs ls hP hD hS hl
      refine lv_iload_n hx hb de_C_clear_12 rfl (lv_at hl 1 rfl) ?_
      refine lv_aload_n hx hb de_C_clear_13 rfl (lv_at hl 0 rfl) ?_
      refine va_get (D := (dC, dI)) (ci := 7) (v := .int (nI (t1.2.2.2 5))) (C := "StabilitySums$Cuts") (T := TB_C) (N := 4) hx hb hts ui_C hown hK hP 7 rfl rfl 3 (by decide) (hts _ uw_230) (fun _ h9 => h9) rfl de_C_clear_14 ?_
      refine lv_icmp_gt (tgt := 40) hx hb de_C_clear_17 (by decide) (fun c_2 => ?_) (fun c_2 => ?_)
      · skip
        have c_2 : (t1.2.2.2 5) < i := (nI_ltI (a := (t1.2.2.2 5)) (b := i) (by omega) (by omega)).mp c_2
        have hfin : t1 = x_cclr (k + 1) 0 (sN t 5 k) := by
          exact hq
        rw [hfin] at hP hD
        subst hQ
        exact W.vret hx hb hr (fun t9 ht hW => ⟨⟨(), rfl, trivial, by rw [ht]; exact hP, va_K.moved hW.alike hK, hD⟩, hS.F ht⟩) hS.2.2 de_C_clear_40
      · skip
        have c_2 : ¬ ((t1.2.2.2 5) < i) := fun z => c_2 ((nI_ltI (a := (t1.2.2.2 5)) (b := i) (by omega) (by omega)).mpr z)
        exfalso; omega
    | succ n ih =>
      intro i t1 hi hk hq H locs ls hP hD hS hl
      refine lv_iload_n hx hb de_C_clear_12 rfl (lv_at hl 1 rfl) ?_
      refine lv_aload_n hx hb de_C_clear_13 rfl (lv_at hl 0 rfl) ?_
      refine va_get (D := (dC, dI)) (ci := 7) (v := .int (nI (t1.2.2.2 5))) (C := "StabilitySums$Cuts") (T := TB_C) (N := 4) hx hb hts ui_C hown hK hP 7 rfl rfl 3 (by decide) (hts _ uw_230) (fun _ h9 => h9) rfl de_C_clear_14 ?_
      refine lv_icmp_gt (tgt := 40) hx hb de_C_clear_17 (by decide) (fun c_3 => ?_) (fun c_3 => ?_)
      · skip
        have c_3 : (t1.2.2.2 5) < i := (nI_ltI (a := (t1.2.2.2 5)) (b := i) (by omega) (by omega)).mp c_3
        exfalso; omega
      · skip
        have c_3 : ¬ ((t1.2.2.2 5) < i) := fun z => c_3 ((nI_ltI (a := (t1.2.2.2 5)) (b := i) (by omega) (by omega)).mpr z)
        refine lv_aload_n hx hb de_C_clear_20 rfl (lv_at hl 0 rfl) ?_
        refine va_get (D := (dC, dI)) (ci := 7) (v := .ref (ad 31)) (C := "StabilitySums$Cuts") (T := TB_C) (N := 4) hx hb hts ui_C hown hK hP 7 rfl rfl 1 (by decide) (hts _ uw_226) (fun _ h9 => h9) rfl de_C_clear_21 ?_
        refine lv_iload_n hx hb de_C_clear_24 rfl (lv_at hl 1 rfl) ?_
        refine lv_lconst (v := 0) hx hb de_C_clear_25 (by decide) ?_
        refine rw_last (f := t1.1 19) (j := i) (x := 0) hx hb hK hP hD hS 31 0 rfl rfl (by omega) (by decide) de_C_clear_26 (fun H locs hP hD hS => ?_)
        have hP : va_P (dC, dI) CLS (wS ad T (sL t1 19 i 0)) H := hP
        have hD : va_D A (wS ad T (sL t1 19 i 0)) := hD
        refine lv_aload_n hx hb de_C_clear_27 rfl (lv_at hl 0 rfl) ?_
        refine va_get (D := (dC, dI)) (ci := 7) (v := .ref (ad 32)) (C := "StabilitySums$Cuts") (T := TB_C) (N := 4) hx hb hts ui_C hown hK hP 7 rfl rfl 2 (by decide) (hts _ uw_228) (fun _ h9 => h9) rfl de_C_clear_28 ?_
        refine lv_iload_n hx hb de_C_clear_31 rfl (lv_at hl 1 rfl) ?_
        refine lv_lconst (v := 0) hx hb de_C_clear_32 (by decide) ?_
        refine rw_last (f := t1.1 20) (j := i) (x := 0) hx hb hK hP hD hS 32 0 rfl rfl (by omega) (by decide) de_C_clear_33 (fun H locs hP hD hS => ?_)
        have hP : va_P (dC, dI) CLS (wS ad T (sL (sL t1 19 i 0) 20 i 0)) H := hP
        have hD : va_D A (wS ad T (sL (sL t1 19 i 0) 20 i 0)) := hD
        refine lv_iinc (v := (nI (i + 1))) (lv' := [(2, .int (nI (i + 1))), (0, .ref (ad 7))]) hx hb de_C_clear_34 hl (k := 1) rfl (nI_1 i) (by decide) rfl (fun ls hl => ?_)
        refine lv_goto (tgt := 12) hx hb de_C_clear_37 (by decide) ?_
        exact ih (i + 1) (sL (sL t1 19 i 0) 20 i 0) (by omega) hk hq H locs ls hP hD hS (lv_sub hl [1, 0] rfl)
  exact loop_12 (k + 1) 0 (sN t 5 k) (by omega) rfl rfl _ _ ls hP hD hS (lv_sub hl [1, 0] rfl)
set_option maxHeartbeats 4000000 in
set_option maxRecDepth 100000 in
theorem mt_C_add (l : Launch) (dC : Nat → ClassId) (dI : Nat → Nat → Nat) (ad : Nat → Nat) (T : Nat → ClassId) (t : St) (a0 : Int64) (a1 : Int64) (hk0 : t.2.2.2 5 ≤ 10) (sz : Nat) : Met l yn_C_add (.code yn_C_add cd_C_add 6 none :: UW) ({ frames := 0, cells := 0, slots := 0, locals := 0 } : Room) (va_Pc [.ref (ad 7), .long a0, .long a1] (Pw (dC, dI) CLS (TY T) (wS ad T t) sz)) (va_Qv (fun _ : Unit => True) (Bw (dC, dI) CLS (TY T) (fun _ : Unit => (wS ad T (x_cutsAdd a0 a1 t))) (va_A (wS ad T t) sz)) (va_A (wS ad T t) sz)) 0 0 (va_A (wS ad T t) sz) := by
  refine Met.ofW (cc := cd_C_add) (maxL := 6) (ret := none) (by decide) rfl ?_
  intro p e s m args below meth c s₁ B hml hv
  obtain ⟨rfl, hsz, hP, hK, hD0, hN⟩ := hv
  have hx := B.exec
  have hb := B.bytes
  have hr := B.returns
  have hts : ∀ w ∈ UW, w.before _ s = true := fun w h => atoms_spec (ws := .code yn_C_add cd_C_add 6 none :: UW) B.pre w (List.mem_cons_of_mem _ h)
  have hown : s.vm.findClass "StabilitySums$Cuts" = some m.cls := findClass_of_methodNamed B.named
  have hlocks := B.notSynchronized
  subst hsz
  have hD := hD0.self (sz := s.heap.size)
  generalize hAe : va_A (wS ad T t) s.heap.size = A at hD ⊢
  have hA : ∀ q : Nat, s.heap.size ≤ q → A q := fun q h => by rw [← hAe]; exact Or.inr h
  have hS : va_S A s.heap s.heap [] := va_S.rf
  have hl := lv_entry ([.ref (ad 7), .long a0, .long a1]) (n := 6) (Nat.le_of_ble_eq_true rfl)
  rw [lg_entry_eq]
  generalize (lg_sl ([.ref (ad 7), .long a0, .long a1]) ++ List.replicate (6 - (lg_sl ([.ref (ad 7), .long a0, .long a1])).length) Slot.unset).toArray = ls at hl ⊢
  have hl : lv_has ls 6 [(0, .ref (ad 7)), (1, .long a0), (3, .long a1)] := hl
  generalize hQ : MQ below _ _ s 0 0 A = Q
  refine lv_iconst (v := 0) hx hb de_C_add_0 (by decide) ?_
  refine lv_istore (lv' := [(5, .int 0), (0, .ref (ad 7)), (1, .long a0), (3, .long a1)]) hx hb de_C_add_1 hl (by decide) rfl (fun ls hl => ?_)
  have loop_3 : ∀ (n : Nat) (i : Nat) (t1 : St), (i + n = t.2.2.2 5 + 1) → (t1.2.2.2 5 = t.2.2.2 5) → (x_cadd a0 a1 n i t1 = x_cutsAdd a0 a1 t) → ∀ (H : Heap) (locs : List Loc) (ls : Array Slot), va_P (dC, dI) CLS (wS ad T t1) H → va_D A (wS ad T t1) → va_S A s.heap H locs → lv_has ls 6 [(0, .ref (ad 7)), (1, .long a0), (3, .long a1), (5, .int (nI i))] → W p l e (headSpec (.code yn_C_add cd_C_add 6 none :: UW) ({ frames := 0, cells := 0, slots := 0, locals := 0 } : Room)).room s m ([.ref (ad 7), .long a0, .long a1] : List Value).toArray below meth c H locs 0 0 Q (F0 m 3 ls []) := by
    intro n
    induction n with
    | zero =>
      intro i t1 hi hk hq H locs ls hP hD hS hl
      refine lv_iload hx hb de_C_add_3 (lv_at hl 3 rfl) ?_
      refine lv_aload_n hx hb de_C_add_5 rfl (lv_at hl 0 rfl) ?_
      refine va_get (D := (dC, dI)) (ci := 7) (v := .int (nI (t1.2.2.2 5))) (C := "StabilitySums$Cuts") (T := TB_C) (N := 4) hx hb hts ui_C hown hK hP 7 rfl rfl 3 (by decide) (hts _ uw_230) (fun _ h9 => h9) rfl de_C_add_6 ?_
      refine lv_icmp_gt (tgt := 62) hx hb de_C_add_9 (by decide) (fun c_1 => ?_) (fun c_1 => ?_)
      · skip
        have c_1 : (t1.2.2.2 5) < i := (nI_ltI (a := (t1.2.2.2 5)) (b := i) (by omega) (by omega)).mp c_1
        have hfin : t1 = x_cutsAdd a0 a1 t := by
          exact hq
        rw [hfin] at hP hD
        subst hQ
        exact W.vret hx hb hr (fun t9 ht hW => ⟨⟨(), rfl, trivial, by rw [ht]; exact hP, va_K.moved hW.alike hK, hD⟩, hS.F ht⟩) hS.2.2 de_C_add_62
      · skip
        have c_1 : ¬ ((t1.2.2.2 5) < i) := fun z => c_1 ((nI_ltI (a := (t1.2.2.2 5)) (b := i) (by omega) (by omega)).mpr z)
        exfalso; omega
    | succ n ih =>
      intro i t1 hi hk hq H locs ls hP hD hS hl
      refine lv_iload hx hb de_C_add_3 (lv_at hl 3 rfl) ?_
      refine lv_aload_n hx hb de_C_add_5 rfl (lv_at hl 0 rfl) ?_
      refine va_get (D := (dC, dI)) (ci := 7) (v := .int (nI (t1.2.2.2 5))) (C := "StabilitySums$Cuts") (T := TB_C) (N := 4) hx hb hts ui_C hown hK hP 7 rfl rfl 3 (by decide) (hts _ uw_230) (fun _ h9 => h9) rfl de_C_add_6 ?_
      refine lv_icmp_gt (tgt := 62) hx hb de_C_add_9 (by decide) (fun c_2 => ?_) (fun c_2 => ?_)
      · skip
        have c_2 : (t1.2.2.2 5) < i := (nI_ltI (a := (t1.2.2.2 5)) (b := i) (by omega) (by omega)).mp c_2
        exfalso; omega
      · skip
        have c_2 : ¬ ((t1.2.2.2 5) < i) := fun z => c_2 ((nI_ltI (a := (t1.2.2.2 5)) (b := i) (by omega) (by omega)).mpr z)
        refine lv_lload_n hx hb de_C_add_12 rfl (lv_at hl 2 rfl) ?_
        refine lv_aload_n hx hb de_C_add_13 rfl (lv_at hl 0 rfl) ?_
        refine va_get (D := (dC, dI)) (ci := 7) (v := .ref (ad 30)) (C := "StabilitySums$Cuts") (T := TB_C) (N := 4) hx hb hts ui_C hown hK hP 7 rfl rfl 0 (by decide) (hts _ uw_224) (fun _ h9 => h9) rfl de_C_add_14 ?_
        refine lv_iload hx hb de_C_add_17 (lv_at hl 3 rfl) ?_
        refine rw_lald (f := t1.1 18) (j := i) hx hb hK hP 30 0 rfl rfl (by omega) (by decide) de_C_add_19 ?_
        refine rw_ge (tgt := 56) hx hb de_C_add_20 de_C_add_21 (by decide) (fun c_3 => ?_) (fun c_3 => ?_)
        · skip
          refine lv_iinc (v := (nI (i + 1))) (lv' := [(5, .int (nI (i + 1))), (0, .ref (ad 7)), (1, .long a0), (3, .long a1)]) hx hb de_C_add_56 hl (k := 3) rfl (nI_1 i) (by decide) rfl (fun ls hl => ?_)
          refine lv_goto (tgt := 3) hx hb de_C_add_59 (by decide) ?_
          exact ih (i + 1) t1 (by omega) hk (by rw [← hq, x_cadd]; subst_vars; first | rw [if_pos (Int64.not_le.mp c_3)] | rw [if_neg (fun z => absurd c_3 (Int64.not_le.mpr z))]) H locs ls hP hD hS (lv_sub hl [1, 2, 3, 0] rfl)
        · skip
          refine lv_aload_n hx hb de_C_add_24 rfl (lv_at hl 0 rfl) ?_
          refine va_get (D := (dC, dI)) (ci := 7) (v := .ref (ad 31)) (C := "StabilitySums$Cuts") (T := TB_C) (N := 4) hx hb hts ui_C hown hK hP 7 rfl rfl 1 (by decide) (hts _ uw_226) (fun _ h9 => h9) rfl de_C_add_25 ?_
          refine lv_iload hx hb de_C_add_28 (lv_at hl 3 rfl) ?_
          refine lv_dup2_11 hx hb de_C_add_30 rfl rfl ?_
          refine rw_lald (f := t1.1 19) (j := i) hx hb hK hP 31 0 rfl rfl (by omega) (by decide) de_C_add_31 ?_
          refine lv_lload_n hx hb de_C_add_32 rfl (lv_at hl 1 rfl) ?_
          refine lv_ladd hx hb de_C_add_33 ?_
          refine lv_topl (fun v_4 ev_4 => ?_)
          have ev_4 : v_4 = (t1.1 19 i) + a0 := ev_4
          refine rw_last (f := t1.1 19) (j := i) (x := v_4) hx hb hK hP hD hS 31 0 rfl rfl (by omega) (by decide) de_C_add_34 (fun H locs hP hD hS => ?_)
          have hP : va_P (dC, dI) CLS (wS ad T (sL t1 19 i v_4)) H := hP
          have hD : va_D A (wS ad T (sL t1 19 i v_4)) := hD
          refine lv_aload_n hx hb de_C_add_35 rfl (lv_at hl 0 rfl) ?_
          refine va_get (D := (dC, dI)) (ci := 7) (v := .ref (ad 32)) (C := "StabilitySums$Cuts") (T := TB_C) (N := 4) hx hb hts ui_C hown hK hP 7 rfl rfl 2 (by decide) (hts _ uw_228) (fun _ h9 => h9) rfl de_C_add_36 ?_
          refine lv_iload hx hb de_C_add_39 (lv_at hl 3 rfl) ?_
          refine lv_dup2_11 hx hb de_C_add_41 rfl rfl ?_
          refine rw_lald (f := t1.1 20) (j := i) hx hb hK hP 32 0 rfl rfl (by omega) (by decide) de_C_add_42 ?_
          refine lv_lload_n hx hb de_C_add_43 rfl (lv_at hl 1 rfl) ?_
          refine lv_aload_n hx hb de_C_add_44 rfl (lv_at hl 0 rfl) ?_
          refine va_get (D := (dC, dI)) (ci := 7) (v := .ref (ad 30)) (C := "StabilitySums$Cuts") (T := TB_C) (N := 4) hx hb hts ui_C hown hK hP 7 rfl rfl 0 (by decide) (hts _ uw_224) (fun _ h9 => h9) rfl de_C_add_45 ?_
          refine lv_iload hx hb de_C_add_48 (lv_at hl 3 rfl) ?_
          refine rw_lald (f := t1.1 18) (j := i) hx hb hK hP 30 0 rfl rfl (by omega) (by decide) de_C_add_50 ?_
          refine lv_lload_n hx hb de_C_add_51 rfl (lv_at hl 2 rfl) ?_
          refine lv_lsub hx hb de_C_add_52 ?_
          refine lv_topl (fun v_5 ev_5 => ?_)
          have ev_5 : v_5 = (t1.1 18 i) - a1 := ev_5
          refine lv_lmul hx hb de_C_add_53 ?_
          refine lv_topl (fun v_6 ev_6 => ?_)
          have ev_6 : v_6 = a0 * v_5 := ev_6
          refine lv_ladd hx hb de_C_add_54 ?_
          refine lv_topl (fun v_7 ev_7 => ?_)
          have ev_7 : v_7 = (t1.1 20 i) + v_6 := ev_7
          refine rw_last (f := t1.1 20) (j := i) (x := v_7) hx hb hK hP hD hS 32 0 rfl rfl (by omega) (by decide) de_C_add_55 (fun H locs hP hD hS => ?_)
          have hP : va_P (dC, dI) CLS (wS ad T (sL (sL t1 19 i v_4) 20 i v_7)) H := hP
          have hD : va_D A (wS ad T (sL (sL t1 19 i v_4) 20 i v_7)) := hD
          refine lv_iinc (v := (nI (i + 1))) (lv' := [(5, .int (nI (i + 1))), (0, .ref (ad 7)), (1, .long a0), (3, .long a1)]) hx hb de_C_add_56 hl (k := 3) rfl (nI_1 i) (by decide) rfl (fun ls hl => ?_)
          refine lv_goto (tgt := 3) hx hb de_C_add_59 (by decide) ?_
          exact ih (i + 1) (sL (sL t1 19 i v_4) 20 i v_7) (by omega) hk (by rw [← hq, x_cadd]; subst_vars; first | rw [if_pos (Int64.not_le.mp c_3)] | rw [if_neg (fun z => absurd c_3 (Int64.not_le.mpr z))]) H locs ls hP hD hS (lv_sub hl [1, 2, 3, 0] rfl)
  exact loop_3 (t.2.2.2 5 + 1) 0 t (by omega) rfl rfl _ _ ls hP hD hS (lv_sub hl [1, 2, 3, 0] rfl)
set_option maxHeartbeats 4000000 in
set_option maxRecDepth 100000 in
theorem mt_W_append (l : Launch) (dC : Nat → ClassId) (dI : Nat → Nat → Nat) (ad : Nat → Nat) (T : Nat → ClassId) (t : St) (a0 : Int64) (a1 : Int64) (a2 : Int64) (a3 : Int64) (hc : t.2.2.2 0 < 40) (sz : Nat) : Met l yn_W_append (.code yn_W_append cd_W_append 10 (some .int) :: UW) ({ frames := 0, cells := 0, slots := 0, locals := 0 } : Room) (va_Pc [.ref (ad 1), .long a0, .long a1, .long a2, .long a3] (Pw (dC, dI) CLS (TY T) (wS ad T t) sz)) (va_Qi (fun (r : Int32) (_ : Unit) => r = nI (t.2.2.2 0)) (Bw (dC, dI) CLS (TY T) (fun _ : Unit => (wS ad T (x_wapp a0 a1 a2 a3 t))) (va_A (wS ad T t) sz)) (va_A (wS ad T t) sz)) 0 0 (va_A (wS ad T t) sz) := by
  refine Met.ofW (cc := cd_W_append) (maxL := 10) (ret := (some .int)) (by decide) rfl ?_
  intro p e s m args below meth c s₁ B hml hv
  obtain ⟨rfl, hsz, hP, hK, hD0, hN⟩ := hv
  have hx := B.exec
  have hb := B.bytes
  have hr := B.returns
  have hts : ∀ w ∈ UW, w.before _ s = true := fun w h => atoms_spec (ws := .code yn_W_append cd_W_append 10 (some .int) :: UW) B.pre w (List.mem_cons_of_mem _ h)
  have hown : s.vm.findClass "StabilitySums$Weights" = some m.cls := findClass_of_methodNamed B.named
  have hlocks := B.notSynchronized
  subst hsz
  have hD := hD0.self (sz := s.heap.size)
  generalize hAe : va_A (wS ad T t) s.heap.size = A at hD ⊢
  have hA : ∀ q : Nat, s.heap.size ≤ q → A q := fun q h => by rw [← hAe]; exact Or.inr h
  have hS : va_S A s.heap s.heap [] := va_S.rf
  have hl := lv_entry ([.ref (ad 1), .long a0, .long a1, .long a2, .long a3]) (n := 10) (Nat.le_of_ble_eq_true rfl)
  rw [lg_entry_eq]
  generalize (lg_sl ([.ref (ad 1), .long a0, .long a1, .long a2, .long a3]) ++ List.replicate (10 - (lg_sl ([.ref (ad 1), .long a0, .long a1, .long a2, .long a3])).length) Slot.unset).toArray = ls at hl ⊢
  have hl : lv_has ls 10 [(0, .ref (ad 1)), (1, .long a0), (3, .long a1), (5, .long a2), (7, .long a3)] := hl
  generalize hQ : MQ below _ _ s 0 0 A = Q
  refine lv_aload_n hx hb de_W_append_0 rfl (lv_at hl 0 rfl) ?_
  refine va_get (D := (dC, dI)) (ci := 1) (v := .int (nI (t.2.2.2 0))) (C := "StabilitySums$Weights") (T := TB_W) (N := 5) hx hb hts ui_W hown hK hP 1 rfl rfl 4 (by decide) (hts _ uw_67) (fun _ h9 => h9) rfl de_W_append_1 ?_
  refine lv_istore (lv' := [(9, .int (nI (t.2.2.2 0))), (0, .ref (ad 1)), (1, .long a0), (3, .long a1), (5, .long a2), (7, .long a3)]) hx hb de_W_append_4 hl (by decide) rfl (fun ls hl => ?_)
  refine lv_aload_n hx hb de_W_append_6 rfl (lv_at hl 1 rfl) ?_
  refine va_get (D := (dC, dI)) (ci := 1) (v := .ref (ad 9)) (C := "StabilitySums$Weights") (T := TB_W) (N := 5) hx hb hts ui_W hown hK hP 1 rfl rfl 0 (by decide) (hts _ uw_59) (fun _ h9 => h9) rfl de_W_append_7 ?_
  refine lv_iload hx hb de_W_append_10 (lv_at hl 0 rfl) ?_
  refine lv_lload_n hx hb de_W_append_12 rfl (lv_at hl 2 rfl) ?_
  refine rw_last (f := t.1 0) (j := (t.2.2.2 0)) (x := a0) hx hb hK hP hD hS 9 0 rfl rfl (by omega) (by decide) de_W_append_13 (fun H locs hP hD hS => ?_)
  have hP : va_P (dC, dI) CLS (wS ad T (sL t 0 (t.2.2.2 0) a0)) H := hP
  have hD : va_D A (wS ad T (sL t 0 (t.2.2.2 0) a0)) := hD
  refine lv_aload_n hx hb de_W_append_14 rfl (lv_at hl 1 rfl) ?_
  refine va_get (D := (dC, dI)) (ci := 1) (v := .ref (ad 10)) (C := "StabilitySums$Weights") (T := TB_W) (N := 5) hx hb hts ui_W hown hK hP 1 rfl rfl 1 (by decide) (hts _ uw_61) (fun _ h9 => h9) rfl de_W_append_15 ?_
  refine lv_iload hx hb de_W_append_18 (lv_at hl 0 rfl) ?_
  refine lv_lload_n hx hb de_W_append_20 rfl (lv_at hl 3 rfl) ?_
  refine rw_last (f := t.1 1) (j := (t.2.2.2 0)) (x := a1) hx hb hK hP hD hS 10 0 rfl rfl (by omega) (by decide) de_W_append_21 (fun H locs hP hD hS => ?_)
  have hP : va_P (dC, dI) CLS (wS ad T (sL (sL t 0 (t.2.2.2 0) a0) 1 (t.2.2.2 0) a1)) H := hP
  have hD : va_D A (wS ad T (sL (sL t 0 (t.2.2.2 0) a0) 1 (t.2.2.2 0) a1)) := hD
  refine lv_aload_n hx hb de_W_append_22 rfl (lv_at hl 1 rfl) ?_
  refine va_get (D := (dC, dI)) (ci := 1) (v := .ref (ad 11)) (C := "StabilitySums$Weights") (T := TB_W) (N := 5) hx hb hts ui_W hown hK hP 1 rfl rfl 2 (by decide) (hts _ uw_63) (fun _ h9 => h9) rfl de_W_append_23 ?_
  refine lv_iload hx hb de_W_append_26 (lv_at hl 0 rfl) ?_
  refine lv_lload hx hb de_W_append_28 (lv_at hl 4 rfl) ?_
  refine rw_last (f := t.1 2) (j := (t.2.2.2 0)) (x := a2) hx hb hK hP hD hS 11 0 rfl rfl (by omega) (by decide) de_W_append_30 (fun H locs hP hD hS => ?_)
  have hP : va_P (dC, dI) CLS (wS ad T (sL (sL (sL t 0 (t.2.2.2 0) a0) 1 (t.2.2.2 0) a1) 2 (t.2.2.2 0) a2)) H := hP
  have hD : va_D A (wS ad T (sL (sL (sL t 0 (t.2.2.2 0) a0) 1 (t.2.2.2 0) a1) 2 (t.2.2.2 0) a2)) := hD
  refine lv_aload_n hx hb de_W_append_31 rfl (lv_at hl 1 rfl) ?_
  refine va_get (D := (dC, dI)) (ci := 1) (v := .ref (ad 12)) (C := "StabilitySums$Weights") (T := TB_W) (N := 5) hx hb hts ui_W hown hK hP 1 rfl rfl 3 (by decide) (hts _ uw_65) (fun _ h9 => h9) rfl de_W_append_32 ?_
  refine lv_iload hx hb de_W_append_35 (lv_at hl 0 rfl) ?_
  refine lv_lload hx hb de_W_append_37 (lv_at hl 5 rfl) ?_
  refine rw_last (f := t.1 3) (j := (t.2.2.2 0)) (x := a3) hx hb hK hP hD hS 12 0 rfl rfl (by omega) (by decide) de_W_append_39 (fun H locs hP hD hS => ?_)
  have hP : va_P (dC, dI) CLS (wS ad T (sL (sL (sL (sL t 0 (t.2.2.2 0) a0) 1 (t.2.2.2 0) a1) 2 (t.2.2.2 0) a2) 3 (t.2.2.2 0) a3)) H := hP
  have hD : va_D A (wS ad T (sL (sL (sL (sL t 0 (t.2.2.2 0) a0) 1 (t.2.2.2 0) a1) 2 (t.2.2.2 0) a2) 3 (t.2.2.2 0) a3)) := hD
  refine lv_aload_n hx hb de_W_append_40 rfl (lv_at hl 1 rfl) ?_
  refine lv_dup hx hb de_W_append_41 rfl ?_
  refine va_get (D := (dC, dI)) (ci := 1) (v := .int (nI (t.2.2.2 0))) (C := "StabilitySums$Weights") (T := TB_W) (N := 5) hx hb hts ui_W hown hK hP 1 rfl rfl 4 (by decide) (hts _ uw_67) (fun _ h9 => h9) rfl de_W_append_42 ?_
  refine lv_iconst (v := 1) hx hb de_W_append_45 (by decide) ?_
  refine lv_iadd hx hb de_W_append_46 ?_
  refine lv_topi (fun v_1 ev_1 => ?_)
  have ev_1 : v_1 = (nI ((t.2.2.2 0) + 1)) := ev_1.trans (nI_add (t.2.2.2 0) 1)
  subst ev_1
  refine va_put (D := (dC, dI)) (ci := 1) (v := .int (nI ((t.2.2.2 0) + 1))) (ty := .int) (C := "StabilitySums$Weights") (T := TB_W) (N := 5) hx hb hts ui_W tt_W tk_W nm_W hown hK hP hD hS 1 rfl rfl 4 (by decide) (hts _ uw_67) (fun _ h9 => h9) rfl (by decide +kernel) rfl rfl (Nat.le_of_ble_eq_true rfl) de_W_append_47 (fun H locs hP hD hS => ?_)
  have hP : va_P (dC, dI) CLS (wS ad T (sN (sL (sL (sL (sL t 0 (t.2.2.2 0) a0) 1 (t.2.2.2 0) a1) 2 (t.2.2.2 0) a2) 3 (t.2.2.2 0) a3) 0 ((t.2.2.2 0) + 1))) H := hP
  have hD : va_D A (wS ad T (sN (sL (sL (sL (sL t 0 (t.2.2.2 0) a0) 1 (t.2.2.2 0) a1) 2 (t.2.2.2 0) a2) 3 (t.2.2.2 0) a3) 0 ((t.2.2.2 0) + 1))) := hD
  refine lv_iload hx hb de_W_append_50 (lv_at hl 0 rfl) ?_
  have hfin : (sN (sL (sL (sL (sL t 0 (t.2.2.2 0) a0) 1 (t.2.2.2 0) a1) 2 (t.2.2.2 0) a2) 3 (t.2.2.2 0) a3) 0 ((t.2.2.2 0) + 1)) = x_wapp a0 a1 a2 a3 t := by
    rfl
  rw [hfin] at hP hD
  subst hQ
  have hpost : (nI (t.2.2.2 0)) = nI (t.2.2.2 0) := by
    rfl
  exact W.iret (v := (nI (t.2.2.2 0))) hx hb hr (fun t9 ht hW => ⟨⟨(nI (t.2.2.2 0)), (), rfl, hpost, by rw [ht]; exact hP, va_K.moved hW.alike hK, hD⟩, hS.F ht⟩) hS.2.2 de_W_append_52
set_option maxHeartbeats 4000000 in
set_option maxRecDepth 100000 in
theorem mt_T_append (l : Launch) (dC : Nat → ClassId) (dI : Nat → Nat → Nat) (ad : Nat → Nat) (T : Nat → ClassId) (t : St) (a0 : Int64) (a1 : Int64) (a2 : Int64) (a3 : Int64) (a4 : Int64) (hc : t.2.2.2 1 < 4) (sz : Nat) : Met l yn_T_append (.code yn_T_append cd_T_append 12 (some .int) :: UW) ({ frames := 0, cells := 0, slots := 0, locals := 0 } : Room) (va_Pc [.ref (ad 2), .long a0, .long a1, .long a2, .long a3, .long a4] (Pw (dC, dI) CLS (TY T) (wS ad T t) sz)) (va_Qi (fun (r : Int32) (_ : Unit) => r = nI (t.2.2.2 1)) (Bw (dC, dI) CLS (TY T) (fun _ : Unit => (wS ad T (x_tapp a0 a1 a2 a3 a4 t))) (va_A (wS ad T t) sz)) (va_A (wS ad T t) sz)) 0 0 (va_A (wS ad T t) sz) := by
  refine Met.ofW (cc := cd_T_append) (maxL := 12) (ret := (some .int)) (by decide) rfl ?_
  intro p e s m args below meth c s₁ B hml hv
  obtain ⟨rfl, hsz, hP, hK, hD0, hN⟩ := hv
  have hx := B.exec
  have hb := B.bytes
  have hr := B.returns
  have hts : ∀ w ∈ UW, w.before _ s = true := fun w h => atoms_spec (ws := .code yn_T_append cd_T_append 12 (some .int) :: UW) B.pre w (List.mem_cons_of_mem _ h)
  have hown : s.vm.findClass "StabilitySums$Tanks" = some m.cls := findClass_of_methodNamed B.named
  have hlocks := B.notSynchronized
  subst hsz
  have hD := hD0.self (sz := s.heap.size)
  generalize hAe : va_A (wS ad T t) s.heap.size = A at hD ⊢
  have hA : ∀ q : Nat, s.heap.size ≤ q → A q := fun q h => by rw [← hAe]; exact Or.inr h
  have hS : va_S A s.heap s.heap [] := va_S.rf
  have hl := lv_entry ([.ref (ad 2), .long a0, .long a1, .long a2, .long a3, .long a4]) (n := 12) (Nat.le_of_ble_eq_true rfl)
  rw [lg_entry_eq]
  generalize (lg_sl ([.ref (ad 2), .long a0, .long a1, .long a2, .long a3, .long a4]) ++ List.replicate (12 - (lg_sl ([.ref (ad 2), .long a0, .long a1, .long a2, .long a3, .long a4])).length) Slot.unset).toArray = ls at hl ⊢
  have hl : lv_has ls 12 [(0, .ref (ad 2)), (1, .long a0), (3, .long a1), (5, .long a2), (7, .long a3), (9, .long a4)] := hl
  generalize hQ : MQ below _ _ s 0 0 A = Q
  refine lv_aload_n hx hb de_T_append_0 rfl (lv_at hl 0 rfl) ?_
  refine va_get (D := (dC, dI)) (ci := 2) (v := .int (nI (t.2.2.2 1))) (C := "StabilitySums$Tanks") (T := TB_T) (N := 9) hx hb hts ui_T hown hK hP 2 rfl rfl 8 (by decide) (hts _ uw_102) (fun _ h9 => h9) rfl de_T_append_1 ?_
  refine lv_istore (lv' := [(11, .int (nI (t.2.2.2 1))), (0, .ref (ad 2)), (1, .long a0), (3, .long a1), (5, .long a2), (7, .long a3), (9, .long a4)]) hx hb de_T_append_4 hl (by decide) rfl (fun ls hl => ?_)
  refine lv_aload_n hx hb de_T_append_6 rfl (lv_at hl 1 rfl) ?_
  refine va_get (D := (dC, dI)) (ci := 2) (v := .ref (ad 13)) (C := "StabilitySums$Tanks") (T := TB_T) (N := 9) hx hb hts ui_T hown hK hP 2 rfl rfl 0 (by decide) (hts _ uw_87) (fun _ h9 => h9) rfl de_T_append_7 ?_
  refine lv_iload hx hb de_T_append_10 (lv_at hl 0 rfl) ?_
  refine lv_lload_n hx hb de_T_append_12 rfl (lv_at hl 2 rfl) ?_
  refine rw_last (f := t.1 4) (j := (t.2.2.2 1)) (x := a0) hx hb hK hP hD hS 13 0 rfl rfl (by omega) (by decide) de_T_append_13 (fun H locs hP hD hS => ?_)
  have hP : va_P (dC, dI) CLS (wS ad T (sL t 4 (t.2.2.2 1) a0)) H := hP
  have hD : va_D A (wS ad T (sL t 4 (t.2.2.2 1) a0)) := hD
  refine lv_aload_n hx hb de_T_append_14 rfl (lv_at hl 1 rfl) ?_
  refine va_get (D := (dC, dI)) (ci := 2) (v := .ref (ad 14)) (C := "StabilitySums$Tanks") (T := TB_T) (N := 9) hx hb hts ui_T hown hK hP 2 rfl rfl 1 (by decide) (hts _ uw_89) (fun _ h9 => h9) rfl de_T_append_15 ?_
  refine lv_iload hx hb de_T_append_18 (lv_at hl 0 rfl) ?_
  refine lv_lload_n hx hb de_T_append_20 rfl (lv_at hl 3 rfl) ?_
  refine rw_last (f := t.1 5) (j := (t.2.2.2 1)) (x := a1) hx hb hK hP hD hS 14 0 rfl rfl (by omega) (by decide) de_T_append_21 (fun H locs hP hD hS => ?_)
  have hP : va_P (dC, dI) CLS (wS ad T (sL (sL t 4 (t.2.2.2 1) a0) 5 (t.2.2.2 1) a1)) H := hP
  have hD : va_D A (wS ad T (sL (sL t 4 (t.2.2.2 1) a0) 5 (t.2.2.2 1) a1)) := hD
  refine lv_aload_n hx hb de_T_append_22 rfl (lv_at hl 1 rfl) ?_
  refine va_get (D := (dC, dI)) (ci := 2) (v := .ref (ad 15)) (C := "StabilitySums$Tanks") (T := TB_T) (N := 9) hx hb hts ui_T hown hK hP 2 rfl rfl 2 (by decide) (hts _ uw_90) (fun _ h9 => h9) rfl de_T_append_23 ?_
  refine lv_iload hx hb de_T_append_26 (lv_at hl 0 rfl) ?_
  refine lv_lload hx hb de_T_append_28 (lv_at hl 4 rfl) ?_
  refine rw_last (f := t.1 6) (j := (t.2.2.2 1)) (x := a2) hx hb hK hP hD hS 15 0 rfl rfl (by omega) (by decide) de_T_append_30 (fun H locs hP hD hS => ?_)
  have hP : va_P (dC, dI) CLS (wS ad T (sL (sL (sL t 4 (t.2.2.2 1) a0) 5 (t.2.2.2 1) a1) 6 (t.2.2.2 1) a2)) H := hP
  have hD : va_D A (wS ad T (sL (sL (sL t 4 (t.2.2.2 1) a0) 5 (t.2.2.2 1) a1) 6 (t.2.2.2 1) a2)) := hD
  refine lv_aload_n hx hb de_T_append_31 rfl (lv_at hl 1 rfl) ?_
  refine va_get (D := (dC, dI)) (ci := 2) (v := .ref (ad 16)) (C := "StabilitySums$Tanks") (T := TB_T) (N := 9) hx hb hts ui_T hown hK hP 2 rfl rfl 3 (by decide) (hts _ uw_92) (fun _ h9 => h9) rfl de_T_append_32 ?_
  refine lv_iload hx hb de_T_append_35 (lv_at hl 0 rfl) ?_
  refine lv_lload hx hb de_T_append_37 (lv_at hl 5 rfl) ?_
  refine rw_last (f := t.1 7) (j := (t.2.2.2 1)) (x := a3) hx hb hK hP hD hS 16 0 rfl rfl (by omega) (by decide) de_T_append_39 (fun H locs hP hD hS => ?_)
  have hP : va_P (dC, dI) CLS (wS ad T (sL (sL (sL (sL t 4 (t.2.2.2 1) a0) 5 (t.2.2.2 1) a1) 6 (t.2.2.2 1) a2) 7 (t.2.2.2 1) a3)) H := hP
  have hD : va_D A (wS ad T (sL (sL (sL (sL t 4 (t.2.2.2 1) a0) 5 (t.2.2.2 1) a1) 6 (t.2.2.2 1) a2) 7 (t.2.2.2 1) a3)) := hD
  refine lv_aload_n hx hb de_T_append_40 rfl (lv_at hl 1 rfl) ?_
  refine va_get (D := (dC, dI)) (ci := 2) (v := .ref (ad 17)) (C := "StabilitySums$Tanks") (T := TB_T) (N := 9) hx hb hts ui_T hown hK hP 2 rfl rfl 4 (by decide) (hts _ uw_94) (fun _ h9 => h9) rfl de_T_append_41 ?_
  refine lv_iload hx hb de_T_append_44 (lv_at hl 0 rfl) ?_
  refine lv_lload hx hb de_T_append_46 (lv_at hl 6 rfl) ?_
  refine rw_last (f := t.1 8) (j := (t.2.2.2 1)) (x := a4) hx hb hK hP hD hS 17 0 rfl rfl (by omega) (by decide) de_T_append_48 (fun H locs hP hD hS => ?_)
  have hP : va_P (dC, dI) CLS (wS ad T (sL (sL (sL (sL (sL t 4 (t.2.2.2 1) a0) 5 (t.2.2.2 1) a1) 6 (t.2.2.2 1) a2) 7 (t.2.2.2 1) a3) 8 (t.2.2.2 1) a4)) H := hP
  have hD : va_D A (wS ad T (sL (sL (sL (sL (sL t 4 (t.2.2.2 1) a0) 5 (t.2.2.2 1) a1) 6 (t.2.2.2 1) a2) 7 (t.2.2.2 1) a3) 8 (t.2.2.2 1) a4)) := hD
  refine lv_aload_n hx hb de_T_append_49 rfl (lv_at hl 1 rfl) ?_
  refine lv_dup hx hb de_T_append_50 rfl ?_
  refine va_get (D := (dC, dI)) (ci := 2) (v := .int (nI (t.2.2.2 1))) (C := "StabilitySums$Tanks") (T := TB_T) (N := 9) hx hb hts ui_T hown hK hP 2 rfl rfl 8 (by decide) (hts _ uw_102) (fun _ h9 => h9) rfl de_T_append_51 ?_
  refine lv_iconst (v := 1) hx hb de_T_append_54 (by decide) ?_
  refine lv_iadd hx hb de_T_append_55 ?_
  refine lv_topi (fun v_1 ev_1 => ?_)
  have ev_1 : v_1 = (nI ((t.2.2.2 1) + 1)) := ev_1.trans (nI_add (t.2.2.2 1) 1)
  subst ev_1
  refine va_put (D := (dC, dI)) (ci := 2) (v := .int (nI ((t.2.2.2 1) + 1))) (ty := .int) (C := "StabilitySums$Tanks") (T := TB_T) (N := 9) hx hb hts ui_T tt_T tk_T nm_T hown hK hP hD hS 2 rfl rfl 8 (by decide) (hts _ uw_102) (fun _ h9 => h9) rfl (by decide +kernel) rfl rfl (Nat.le_of_ble_eq_true rfl) de_T_append_56 (fun H locs hP hD hS => ?_)
  have hP : va_P (dC, dI) CLS (wS ad T (sN (sL (sL (sL (sL (sL t 4 (t.2.2.2 1) a0) 5 (t.2.2.2 1) a1) 6 (t.2.2.2 1) a2) 7 (t.2.2.2 1) a3) 8 (t.2.2.2 1) a4) 1 ((t.2.2.2 1) + 1))) H := hP
  have hD : va_D A (wS ad T (sN (sL (sL (sL (sL (sL t 4 (t.2.2.2 1) a0) 5 (t.2.2.2 1) a1) 6 (t.2.2.2 1) a2) 7 (t.2.2.2 1) a3) 8 (t.2.2.2 1) a4) 1 ((t.2.2.2 1) + 1))) := hD
  refine lv_iload hx hb de_T_append_59 (lv_at hl 0 rfl) ?_
  have hfin : (sN (sL (sL (sL (sL (sL t 4 (t.2.2.2 1) a0) 5 (t.2.2.2 1) a1) 6 (t.2.2.2 1) a2) 7 (t.2.2.2 1) a3) 8 (t.2.2.2 1) a4) 1 ((t.2.2.2 1) + 1)) = x_tapp a0 a1 a2 a3 a4 t := by
    rfl
  rw [hfin] at hP hD
  subst hQ
  have hpost : (nI (t.2.2.2 1)) = nI (t.2.2.2 1) := by
    rfl
  exact W.iret (v := (nI (t.2.2.2 1))) hx hb hr (fun t9 ht hW => ⟨⟨(nI (t.2.2.2 1)), (), rfl, hpost, by rw [ht]; exact hP, va_K.moved hW.alike hK, hD⟩, hS.F ht⟩) hS.2.2 de_T_append_61
set_option maxHeartbeats 4000000 in
set_option maxRecDepth 100000 in
theorem mt_B_append (l : Launch) (dC : Nat → ClassId) (dI : Nat → Nat → Nat) (ad : Nat → Nat) (T : Nat → ClassId) (t : St) (a0 : Int64) (a1 : Int64) (a2 : Int64) (hc : t.2.2.2 2 < 12) (sz : Nat) : Met l yn_B_append (.code yn_B_append cd_B_append 7 (some .int) :: UW) ({ frames := 0, cells := 0, slots := 0, locals := 0 } : Room) (va_Pc [.ref (ad 3), .long a0, .long a1, .long a2] (Pw (dC, dI) CLS (TY T) (wS ad T t) sz)) (va_Qi (fun (r : Int32) (_ : Unit) => r = nI (t.2.2.2 2 + 1)) (Bw (dC, dI) CLS (TY T) (fun _ : Unit => (wS ad T (x_bapp a0 a1 a2 t))) (va_A (wS ad T t) sz)) (va_A (wS ad T t) sz)) 0 0 (va_A (wS ad T t) sz) := by
  refine Met.ofW (cc := cd_B_append) (maxL := 7) (ret := (some .int)) (by decide) rfl ?_
  intro p e s m args below meth c s₁ B hml hv
  obtain ⟨rfl, hsz, hP, hK, hD0, hN⟩ := hv
  have hx := B.exec
  have hb := B.bytes
  have hr := B.returns
  have hts : ∀ w ∈ UW, w.before _ s = true := fun w h => atoms_spec (ws := .code yn_B_append cd_B_append 7 (some .int) :: UW) B.pre w (List.mem_cons_of_mem _ h)
  have hown : s.vm.findClass "StabilitySums$Table" = some m.cls := findClass_of_methodNamed B.named
  have hlocks := B.notSynchronized
  subst hsz
  have hD := hD0.self (sz := s.heap.size)
  generalize hAe : va_A (wS ad T t) s.heap.size = A at hD ⊢
  have hA : ∀ q : Nat, s.heap.size ≤ q → A q := fun q h => by rw [← hAe]; exact Or.inr h
  have hS : va_S A s.heap s.heap [] := va_S.rf
  have hl := lv_entry ([.ref (ad 3), .long a0, .long a1, .long a2]) (n := 7) (Nat.le_of_ble_eq_true rfl)
  rw [lg_entry_eq]
  generalize (lg_sl ([.ref (ad 3), .long a0, .long a1, .long a2]) ++ List.replicate (7 - (lg_sl ([.ref (ad 3), .long a0, .long a1, .long a2])).length) Slot.unset).toArray = ls at hl ⊢
  have hl : lv_has ls 7 [(0, .ref (ad 3)), (1, .long a0), (3, .long a1), (5, .long a2)] := hl
  generalize hQ : MQ below _ _ s 0 0 A = Q
  refine lv_aload_n hx hb de_B_append_0 rfl (lv_at hl 0 rfl) ?_
  refine va_get (D := (dC, dI)) (ci := 3) (v := .ref (ad 21)) (C := "StabilitySums$Table") (T := TB_B) (N := 4) hx hb hts ui_B hown hK hP 3 rfl rfl 0 (by decide) (hts _ uw_129) (fun _ h9 => h9) rfl de_B_append_1 ?_
  refine lv_aload_n hx hb de_B_append_4 rfl (lv_at hl 0 rfl) ?_
  refine va_get (D := (dC, dI)) (ci := 3) (v := .int (nI (t.2.2.2 2))) (C := "StabilitySums$Table") (T := TB_B) (N := 4) hx hb hts ui_B hown hK hP 3 rfl rfl 3 (by decide) (hts _ uw_134) (fun _ h9 => h9) rfl de_B_append_5 ?_
  refine lv_lload_n hx hb de_B_append_8 rfl (lv_at hl 1 rfl) ?_
  refine rw_last (f := t.1 12) (j := (t.2.2.2 2)) (x := a0) hx hb hK hP hD hS 21 0 rfl rfl (by omega) (by decide) de_B_append_9 (fun H locs hP hD hS => ?_)
  have hP : va_P (dC, dI) CLS (wS ad T (sL t 12 (t.2.2.2 2) a0)) H := hP
  have hD : va_D A (wS ad T (sL t 12 (t.2.2.2 2) a0)) := hD
  refine lv_aload_n hx hb de_B_append_10 rfl (lv_at hl 0 rfl) ?_
  refine va_get (D := (dC, dI)) (ci := 3) (v := .ref (ad 22)) (C := "StabilitySums$Table") (T := TB_B) (N := 4) hx hb hts ui_B hown hK hP 3 rfl rfl 1 (by decide) (hts _ uw_130) (fun _ h9 => h9) rfl de_B_append_11 ?_
  refine lv_aload_n hx hb de_B_append_14 rfl (lv_at hl 0 rfl) ?_
  refine va_get (D := (dC, dI)) (ci := 3) (v := .int (nI (t.2.2.2 2))) (C := "StabilitySums$Table") (T := TB_B) (N := 4) hx hb hts ui_B hown hK hP 3 rfl rfl 3 (by decide) (hts _ uw_134) (fun _ h9 => h9) rfl de_B_append_15 ?_
  refine lv_lload_n hx hb de_B_append_18 rfl (lv_at hl 2 rfl) ?_
  refine rw_last (f := t.1 13) (j := (t.2.2.2 2)) (x := a1) hx hb hK hP hD hS 22 0 rfl rfl (by omega) (by decide) de_B_append_19 (fun H locs hP hD hS => ?_)
  have hP : va_P (dC, dI) CLS (wS ad T (sL (sL t 12 (t.2.2.2 2) a0) 13 (t.2.2.2 2) a1)) H := hP
  have hD : va_D A (wS ad T (sL (sL t 12 (t.2.2.2 2) a0) 13 (t.2.2.2 2) a1)) := hD
  refine lv_aload_n hx hb de_B_append_20 rfl (lv_at hl 0 rfl) ?_
  refine va_get (D := (dC, dI)) (ci := 3) (v := .ref (ad 23)) (C := "StabilitySums$Table") (T := TB_B) (N := 4) hx hb hts ui_B hown hK hP 3 rfl rfl 2 (by decide) (hts _ uw_132) (fun _ h9 => h9) rfl de_B_append_21 ?_
  refine lv_aload_n hx hb de_B_append_24 rfl (lv_at hl 0 rfl) ?_
  refine va_get (D := (dC, dI)) (ci := 3) (v := .int (nI (t.2.2.2 2))) (C := "StabilitySums$Table") (T := TB_B) (N := 4) hx hb hts ui_B hown hK hP 3 rfl rfl 3 (by decide) (hts _ uw_134) (fun _ h9 => h9) rfl de_B_append_25 ?_
  refine lv_lload hx hb de_B_append_28 (lv_at hl 3 rfl) ?_
  refine rw_last (f := t.1 14) (j := (t.2.2.2 2)) (x := a2) hx hb hK hP hD hS 23 0 rfl rfl (by omega) (by decide) de_B_append_30 (fun H locs hP hD hS => ?_)
  have hP : va_P (dC, dI) CLS (wS ad T (sL (sL (sL t 12 (t.2.2.2 2) a0) 13 (t.2.2.2 2) a1) 14 (t.2.2.2 2) a2)) H := hP
  have hD : va_D A (wS ad T (sL (sL (sL t 12 (t.2.2.2 2) a0) 13 (t.2.2.2 2) a1) 14 (t.2.2.2 2) a2)) := hD
  refine lv_aload_n hx hb de_B_append_31 rfl (lv_at hl 0 rfl) ?_
  refine lv_dup hx hb de_B_append_32 rfl ?_
  refine va_get (D := (dC, dI)) (ci := 3) (v := .int (nI (t.2.2.2 2))) (C := "StabilitySums$Table") (T := TB_B) (N := 4) hx hb hts ui_B hown hK hP 3 rfl rfl 3 (by decide) (hts _ uw_134) (fun _ h9 => h9) rfl de_B_append_33 ?_
  refine lv_iconst (v := 1) hx hb de_B_append_36 (by decide) ?_
  refine lv_iadd hx hb de_B_append_37 ?_
  refine lv_topi (fun v_1 ev_1 => ?_)
  have ev_1 : v_1 = (nI ((t.2.2.2 2) + 1)) := ev_1.trans (nI_add (t.2.2.2 2) 1)
  subst ev_1
  refine va_put (D := (dC, dI)) (ci := 3) (v := .int (nI ((t.2.2.2 2) + 1))) (ty := .int) (C := "StabilitySums$Table") (T := TB_B) (N := 4) hx hb hts ui_B tt_B tk_B nm_B hown hK hP hD hS 3 rfl rfl 3 (by decide) (hts _ uw_134) (fun _ h9 => h9) rfl (by decide +kernel) rfl rfl (Nat.le_of_ble_eq_true rfl) de_B_append_38 (fun H locs hP hD hS => ?_)
  have hP : va_P (dC, dI) CLS (wS ad T (sN (sL (sL (sL t 12 (t.2.2.2 2) a0) 13 (t.2.2.2 2) a1) 14 (t.2.2.2 2) a2) 2 ((t.2.2.2 2) + 1))) H := hP
  have hD : va_D A (wS ad T (sN (sL (sL (sL t 12 (t.2.2.2 2) a0) 13 (t.2.2.2 2) a1) 14 (t.2.2.2 2) a2) 2 ((t.2.2.2 2) + 1))) := hD
  refine lv_aload_n hx hb de_B_append_41 rfl (lv_at hl 0 rfl) ?_
  refine va_get (D := (dC, dI)) (ci := 3) (v := .int (nI ((t.2.2.2 2) + 1))) (C := "StabilitySums$Table") (T := TB_B) (N := 4) hx hb hts ui_B hown hK hP 3 rfl rfl 3 (by decide) (hts _ uw_134) (fun _ h9 => h9) rfl de_B_append_42 ?_
  have hfin : (sN (sL (sL (sL t 12 (t.2.2.2 2) a0) 13 (t.2.2.2 2) a1) 14 (t.2.2.2 2) a2) 2 ((t.2.2.2 2) + 1)) = x_bapp a0 a1 a2 t := by
    rfl
  rw [hfin] at hP hD
  subst hQ
  have hpost : (nI ((t.2.2.2 2) + 1)) = nI (t.2.2.2 2 + 1) := by
    rfl
  exact W.iret (v := (nI ((t.2.2.2 2) + 1))) hx hb hr (fun t9 ht hW => ⟨⟨(nI ((t.2.2.2 2) + 1)), (), rfl, hpost, by rw [ht]; exact hP, va_K.moved hW.alike hK, hD⟩, hS.F ht⟩) hS.2.2 de_B_append_45
set_option maxHeartbeats 4000000 in
set_option maxRecDepth 100000 in
theorem mt_L_append (l : Launch) (dC : Nat → ClassId) (dI : Nat → Nat → Nat) (ad : Nat → Nat) (T : Nat → ClassId) (t : St) (a0 : Int32) (a1 : Int64) (a2 : Int64) (hc : t.2.2.2 3 < 10) (sz : Nat) : Met l yn_L_append (.code yn_L_append cd_L_append 6 (some .int) :: UW) ({ frames := 0, cells := 0, slots := 0, locals := 0 } : Room) (va_Pc [.ref (ad 4), .int a0, .long a1, .long a2] (Pw (dC, dI) CLS (TY T) (wS ad T t) sz)) (va_Qi (fun (r : Int32) (_ : Unit) => r = nI (t.2.2.2 3 + 1)) (Bw (dC, dI) CLS (TY T) (fun _ : Unit => (wS ad T (x_lapp a0 a1 a2 t))) (va_A (wS ad T t) sz)) (va_A (wS ad T t) sz)) 0 0 (va_A (wS ad T t) sz) := by
  refine Met.ofW (cc := cd_L_append) (maxL := 6) (ret := (some .int)) (by decide) rfl ?_
  intro p e s m args below meth c s₁ B hml hv
  obtain ⟨rfl, hsz, hP, hK, hD0, hN⟩ := hv
  have hx := B.exec
  have hb := B.bytes
  have hr := B.returns
  have hts : ∀ w ∈ UW, w.before _ s = true := fun w h => atoms_spec (ws := .code yn_L_append cd_L_append 6 (some .int) :: UW) B.pre w (List.mem_cons_of_mem _ h)
  have hown : s.vm.findClass "StabilitySums$Limits" = some m.cls := findClass_of_methodNamed B.named
  have hlocks := B.notSynchronized
  subst hsz
  have hD := hD0.self (sz := s.heap.size)
  generalize hAe : va_A (wS ad T t) s.heap.size = A at hD ⊢
  have hA : ∀ q : Nat, s.heap.size ≤ q → A q := fun q h => by rw [← hAe]; exact Or.inr h
  have hS : va_S A s.heap s.heap [] := va_S.rf
  have hl := lv_entry ([.ref (ad 4), .int a0, .long a1, .long a2]) (n := 6) (Nat.le_of_ble_eq_true rfl)
  rw [lg_entry_eq]
  generalize (lg_sl ([.ref (ad 4), .int a0, .long a1, .long a2]) ++ List.replicate (6 - (lg_sl ([.ref (ad 4), .int a0, .long a1, .long a2])).length) Slot.unset).toArray = ls at hl ⊢
  have hl : lv_has ls 6 [(0, .ref (ad 4)), (1, .int a0), (2, .long a1), (4, .long a2)] := hl
  generalize hQ : MQ below _ _ s 0 0 A = Q
  refine lv_aload_n hx hb de_L_append_0 rfl (lv_at hl 0 rfl) ?_
  refine lv_dup hx hb de_L_append_1 rfl ?_
  refine va_get (D := (dC, dI)) (ci := 4) (v := .int (nI (t.2.2.2 3))) (C := "StabilitySums$Limits") (T := TB_L) (N := 4) hx hb hts ui_L hown hK hP 4 rfl rfl 3 (by decide) (hts _ uw_155) (fun _ h9 => h9) rfl de_L_append_2 ?_
  refine lv_iconst (v := 1) hx hb de_L_append_5 (by decide) ?_
  refine lv_iadd hx hb de_L_append_6 ?_
  refine lv_topi (fun v_1 ev_1 => ?_)
  have ev_1 : v_1 = (nI ((t.2.2.2 3) + 1)) := ev_1.trans (nI_add (t.2.2.2 3) 1)
  subst ev_1
  refine va_put (D := (dC, dI)) (ci := 4) (v := .int (nI ((t.2.2.2 3) + 1))) (ty := .int) (C := "StabilitySums$Limits") (T := TB_L) (N := 4) hx hb hts ui_L tt_L tk_L nm_L hown hK hP hD hS 4 rfl rfl 3 (by decide) (hts _ uw_155) (fun _ h9 => h9) rfl (by decide +kernel) rfl rfl (Nat.le_of_ble_eq_true rfl) de_L_append_7 (fun H locs hP hD hS => ?_)
  have hP : va_P (dC, dI) CLS (wS ad T (sN t 3 ((t.2.2.2 3) + 1))) H := hP
  have hD : va_D A (wS ad T (sN t 3 ((t.2.2.2 3) + 1))) := hD
  refine lv_aload_n hx hb de_L_append_10 rfl (lv_at hl 0 rfl) ?_
  refine va_get (D := (dC, dI)) (ci := 4) (v := .ref (ad 24)) (C := "StabilitySums$Limits") (T := TB_L) (N := 4) hx hb hts ui_L hown hK hP 4 rfl rfl 0 (by decide) (hts _ uw_151) (fun _ h9 => h9) rfl de_L_append_11 ?_
  refine lv_aload_n hx hb de_L_append_14 rfl (lv_at hl 0 rfl) ?_
  refine va_get (D := (dC, dI)) (ci := 4) (v := .int (nI ((t.2.2.2 3) + 1))) (C := "StabilitySums$Limits") (T := TB_L) (N := 4) hx hb hts ui_L hown hK hP 4 rfl rfl 3 (by decide) (hts _ uw_155) (fun _ h9 => h9) rfl de_L_append_15 ?_
  refine lv_iload_n hx hb de_L_append_18 rfl (lv_at hl 1 rfl) ?_
  refine rw_iast (f := t.2.1 0) (j := ((t.2.2.2 3) + 1)) (x := a0) hx hb hK hP hD hS 24 1 rfl rfl (by omega) (by decide) de_L_append_19 (fun H locs hP hD hS => ?_)
  have hP : va_P (dC, dI) CLS (wS ad T (sI (sN t 3 ((t.2.2.2 3) + 1)) 0 ((t.2.2.2 3) + 1) a0)) H := hP
  have hD : va_D A (wS ad T (sI (sN t 3 ((t.2.2.2 3) + 1)) 0 ((t.2.2.2 3) + 1) a0)) := hD
  refine lv_aload_n hx hb de_L_append_20 rfl (lv_at hl 0 rfl) ?_
  refine va_get (D := (dC, dI)) (ci := 4) (v := .ref (ad 25)) (C := "StabilitySums$Limits") (T := TB_L) (N := 4) hx hb hts ui_L hown hK hP 4 rfl rfl 1 (by decide) (hts _ uw_153) (fun _ h9 => h9) rfl de_L_append_21 ?_
  refine lv_aload_n hx hb de_L_append_24 rfl (lv_at hl 0 rfl) ?_
  refine va_get (D := (dC, dI)) (ci := 4) (v := .int (nI ((t.2.2.2 3) + 1))) (C := "StabilitySums$Limits") (T := TB_L) (N := 4) hx hb hts ui_L hown hK hP 4 rfl rfl 3 (by decide) (hts _ uw_155) (fun _ h9 => h9) rfl de_L_append_25 ?_
  refine lv_lload_n hx hb de_L_append_28 rfl (lv_at hl 2 rfl) ?_
  refine rw_last (f := t.1 15) (j := ((t.2.2.2 3) + 1)) (x := a1) hx hb hK hP hD hS 25 0 rfl rfl (by omega) (by decide) de_L_append_29 (fun H locs hP hD hS => ?_)
  have hP : va_P (dC, dI) CLS (wS ad T (sL (sI (sN t 3 ((t.2.2.2 3) + 1)) 0 ((t.2.2.2 3) + 1) a0) 15 ((t.2.2.2 3) + 1) a1)) H := hP
  have hD : va_D A (wS ad T (sL (sI (sN t 3 ((t.2.2.2 3) + 1)) 0 ((t.2.2.2 3) + 1) a0) 15 ((t.2.2.2 3) + 1) a1)) := hD
  refine lv_aload_n hx hb de_L_append_30 rfl (lv_at hl 0 rfl) ?_
  refine va_get (D := (dC, dI)) (ci := 4) (v := .ref (ad 26)) (C := "StabilitySums$Limits") (T := TB_L) (N := 4) hx hb hts ui_L hown hK hP 4 rfl rfl 2 (by decide) (hts _ uw_154) (fun _ h9 => h9) rfl de_L_append_31 ?_
  refine lv_aload_n hx hb de_L_append_34 rfl (lv_at hl 0 rfl) ?_
  refine va_get (D := (dC, dI)) (ci := 4) (v := .int (nI ((t.2.2.2 3) + 1))) (C := "StabilitySums$Limits") (T := TB_L) (N := 4) hx hb hts ui_L hown hK hP 4 rfl rfl 3 (by decide) (hts _ uw_155) (fun _ h9 => h9) rfl de_L_append_35 ?_
  refine lv_lload hx hb de_L_append_38 (lv_at hl 3 rfl) ?_
  refine rw_last (f := t.1 16) (j := ((t.2.2.2 3) + 1)) (x := a2) hx hb hK hP hD hS 26 0 rfl rfl (by omega) (by decide) de_L_append_40 (fun H locs hP hD hS => ?_)
  have hP : va_P (dC, dI) CLS (wS ad T (sL (sL (sI (sN t 3 ((t.2.2.2 3) + 1)) 0 ((t.2.2.2 3) + 1) a0) 15 ((t.2.2.2 3) + 1) a1) 16 ((t.2.2.2 3) + 1) a2)) H := hP
  have hD : va_D A (wS ad T (sL (sL (sI (sN t 3 ((t.2.2.2 3) + 1)) 0 ((t.2.2.2 3) + 1) a0) 15 ((t.2.2.2 3) + 1) a1) 16 ((t.2.2.2 3) + 1) a2)) := hD
  refine lv_aload_n hx hb de_L_append_41 rfl (lv_at hl 0 rfl) ?_
  refine va_get (D := (dC, dI)) (ci := 4) (v := .int (nI ((t.2.2.2 3) + 1))) (C := "StabilitySums$Limits") (T := TB_L) (N := 4) hx hb hts ui_L hown hK hP 4 rfl rfl 3 (by decide) (hts _ uw_155) (fun _ h9 => h9) rfl de_L_append_42 ?_
  have hfin : (sL (sL (sI (sN t 3 ((t.2.2.2 3) + 1)) 0 ((t.2.2.2 3) + 1) a0) 15 ((t.2.2.2 3) + 1) a1) 16 ((t.2.2.2 3) + 1) a2) = x_lapp a0 a1 a2 t := by
    rfl
  rw [hfin] at hP hD
  subst hQ
  have hpost : (nI ((t.2.2.2 3) + 1)) = nI (t.2.2.2 3 + 1) := by
    rfl
  exact W.iret (v := (nI ((t.2.2.2 3) + 1))) hx hb hr (fun t9 ht hW => ⟨⟨(nI ((t.2.2.2 3) + 1)), (), rfl, hpost, by rw [ht]; exact hP, va_K.moved hW.alike hK, hD⟩, hS.F ht⟩) hS.2.2 de_L_append_45
set_option maxHeartbeats 4000000 in
set_option maxRecDepth 100000 in
theorem mt_E_append (l : Launch) (dC : Nat → ClassId) (dI : Nat → Nat → Nat) (ad : Nat → Nat) (T : Nat → ClassId) (t : St) (a0 : Int32) (a1 : Int32) (a2 : Int64) (hc : t.2.2.2 4 < 20) (sz : Nat) : Met l yn_E_append (.code yn_E_append cd_E_append 6 (some .int) :: UW) ({ frames := 0, cells := 0, slots := 0, locals := 0 } : Room) (va_Pc [.ref (ad 5), .int a0, .int a1, .long a2] (Pw (dC, dI) CLS (TY T) (wS ad T t) sz)) (va_Qi (fun (r : Int32) (_ : Unit) => r = nI (t.2.2.2 4)) (Bw (dC, dI) CLS (TY T) (fun _ : Unit => (wS ad T (x_eapp a0 a1 a2 t))) (va_A (wS ad T t) sz)) (va_A (wS ad T t) sz)) 0 0 (va_A (wS ad T t) sz) := by
  refine Met.ofW (cc := cd_E_append) (maxL := 6) (ret := (some .int)) (by decide) rfl ?_
  intro p e s m args below meth c s₁ B hml hv
  obtain ⟨rfl, hsz, hP, hK, hD0, hN⟩ := hv
  have hx := B.exec
  have hb := B.bytes
  have hr := B.returns
  have hts : ∀ w ∈ UW, w.before _ s = true := fun w h => atoms_spec (ws := .code yn_E_append cd_E_append 6 (some .int) :: UW) B.pre w (List.mem_cons_of_mem _ h)
  have hown : s.vm.findClass "StabilitySums$Steps" = some m.cls := findClass_of_methodNamed B.named
  have hlocks := B.notSynchronized
  subst hsz
  have hD := hD0.self (sz := s.heap.size)
  generalize hAe : va_A (wS ad T t) s.heap.size = A at hD ⊢
  have hA : ∀ q : Nat, s.heap.size ≤ q → A q := fun q h => by rw [← hAe]; exact Or.inr h
  have hS : va_S A s.heap s.heap [] := va_S.rf
  have hl := lv_entry ([.ref (ad 5), .int a0, .int a1, .long a2]) (n := 6) (Nat.le_of_ble_eq_true rfl)
  rw [lg_entry_eq]
  generalize (lg_sl ([.ref (ad 5), .int a0, .int a1, .long a2]) ++ List.replicate (6 - (lg_sl ([.ref (ad 5), .int a0, .int a1, .long a2])).length) Slot.unset).toArray = ls at hl ⊢
  have hl : lv_has ls 6 [(0, .ref (ad 5)), (1, .int a0), (2, .int a1), (3, .long a2)] := hl
  generalize hQ : MQ below _ _ s 0 0 A = Q
  refine lv_aload_n hx hb de_E_append_0 rfl (lv_at hl 0 rfl) ?_
  refine va_get (D := (dC, dI)) (ci := 5) (v := .int (nI (t.2.2.2 4))) (C := "StabilitySums$Steps") (T := TB_E) (N := 4) hx hb hts ui_E hown hK hP 5 rfl rfl 3 (by decide) (hts _ uw_179) (fun _ h9 => h9) rfl de_E_append_1 ?_
  refine lv_istore (lv' := [(5, .int (nI (t.2.2.2 4))), (0, .ref (ad 5)), (1, .int a0), (2, .int a1), (3, .long a2)]) hx hb de_E_append_4 hl (by decide) rfl (fun ls hl => ?_)
  refine lv_aload_n hx hb de_E_append_6 rfl (lv_at hl 1 rfl) ?_
  refine va_get (D := (dC, dI)) (ci := 5) (v := .ref (ad 27)) (C := "StabilitySums$Steps") (T := TB_E) (N := 4) hx hb hts ui_E hown hK hP 5 rfl rfl 0 (by decide) (hts _ uw_173) (fun _ h9 => h9) rfl de_E_append_7 ?_
  refine lv_iload hx hb de_E_append_10 (lv_at hl 0 rfl) ?_
  refine lv_iload_n hx hb de_E_append_12 rfl (lv_at hl 2 rfl) ?_
  refine rw_zast (f := t.2.1 1) (j := (t.2.2.2 4)) (x := a0) hx hb hK hP hD hS 27 2 rfl rfl (by omega) (by decide) de_E_append_13 (fun H locs hP hD hS => ?_)
  have hP : va_P (dC, dI) CLS (wS ad T (sI t 1 (t.2.2.2 4) (vp_nar .boolean a0))) H := hP
  have hD : va_D A (wS ad T (sI t 1 (t.2.2.2 4) (vp_nar .boolean a0))) := hD
  refine lv_aload_n hx hb de_E_append_14 rfl (lv_at hl 1 rfl) ?_
  refine va_get (D := (dC, dI)) (ci := 5) (v := .ref (ad 28)) (C := "StabilitySums$Steps") (T := TB_E) (N := 4) hx hb hts ui_E hown hK hP 5 rfl rfl 1 (by decide) (hts _ uw_175) (fun _ h9 => h9) rfl de_E_append_15 ?_
  refine lv_iload hx hb de_E_append_18 (lv_at hl 0 rfl) ?_
  refine lv_iload_n hx hb de_E_append_20 rfl (lv_at hl 3 rfl) ?_
  refine rw_iast (f := t.2.1 2) (j := (t.2.2.2 4)) (x := a1) hx hb hK hP hD hS 28 1 rfl rfl (by omega) (by decide) de_E_append_21 (fun H locs hP hD hS => ?_)
  have hP : va_P (dC, dI) CLS (wS ad T (sI (sI t 1 (t.2.2.2 4) (vp_nar .boolean a0)) 2 (t.2.2.2 4) a1)) H := hP
  have hD : va_D A (wS ad T (sI (sI t 1 (t.2.2.2 4) (vp_nar .boolean a0)) 2 (t.2.2.2 4) a1)) := hD
  refine lv_aload_n hx hb de_E_append_22 rfl (lv_at hl 1 rfl) ?_
  refine va_get (D := (dC, dI)) (ci := 5) (v := .ref (ad 29)) (C := "StabilitySums$Steps") (T := TB_E) (N := 4) hx hb hts ui_E hown hK hP 5 rfl rfl 2 (by decide) (hts _ uw_177) (fun _ h9 => h9) rfl de_E_append_23 ?_
  refine lv_iload hx hb de_E_append_26 (lv_at hl 0 rfl) ?_
  refine lv_lload_n hx hb de_E_append_28 rfl (lv_at hl 4 rfl) ?_
  refine rw_last (f := t.1 17) (j := (t.2.2.2 4)) (x := a2) hx hb hK hP hD hS 29 0 rfl rfl (by omega) (by decide) de_E_append_29 (fun H locs hP hD hS => ?_)
  have hP : va_P (dC, dI) CLS (wS ad T (sL (sI (sI t 1 (t.2.2.2 4) (vp_nar .boolean a0)) 2 (t.2.2.2 4) a1) 17 (t.2.2.2 4) a2)) H := hP
  have hD : va_D A (wS ad T (sL (sI (sI t 1 (t.2.2.2 4) (vp_nar .boolean a0)) 2 (t.2.2.2 4) a1) 17 (t.2.2.2 4) a2)) := hD
  refine lv_aload_n hx hb de_E_append_30 rfl (lv_at hl 1 rfl) ?_
  refine lv_dup hx hb de_E_append_31 rfl ?_
  refine va_get (D := (dC, dI)) (ci := 5) (v := .int (nI (t.2.2.2 4))) (C := "StabilitySums$Steps") (T := TB_E) (N := 4) hx hb hts ui_E hown hK hP 5 rfl rfl 3 (by decide) (hts _ uw_179) (fun _ h9 => h9) rfl de_E_append_32 ?_
  refine lv_iconst (v := 1) hx hb de_E_append_35 (by decide) ?_
  refine lv_iadd hx hb de_E_append_36 ?_
  refine lv_topi (fun v_1 ev_1 => ?_)
  have ev_1 : v_1 = (nI ((t.2.2.2 4) + 1)) := ev_1.trans (nI_add (t.2.2.2 4) 1)
  subst ev_1
  refine va_put (D := (dC, dI)) (ci := 5) (v := .int (nI ((t.2.2.2 4) + 1))) (ty := .int) (C := "StabilitySums$Steps") (T := TB_E) (N := 4) hx hb hts ui_E tt_E tk_E nm_E hown hK hP hD hS 5 rfl rfl 3 (by decide) (hts _ uw_179) (fun _ h9 => h9) rfl (by decide +kernel) rfl rfl (Nat.le_of_ble_eq_true rfl) de_E_append_37 (fun H locs hP hD hS => ?_)
  have hP : va_P (dC, dI) CLS (wS ad T (sN (sL (sI (sI t 1 (t.2.2.2 4) (vp_nar .boolean a0)) 2 (t.2.2.2 4) a1) 17 (t.2.2.2 4) a2) 4 ((t.2.2.2 4) + 1))) H := hP
  have hD : va_D A (wS ad T (sN (sL (sI (sI t 1 (t.2.2.2 4) (vp_nar .boolean a0)) 2 (t.2.2.2 4) a1) 17 (t.2.2.2 4) a2) 4 ((t.2.2.2 4) + 1))) := hD
  refine lv_iload hx hb de_E_append_40 (lv_at hl 0 rfl) ?_
  have hfin : (sN (sL (sI (sI t 1 (t.2.2.2 4) (vp_nar .boolean a0)) 2 (t.2.2.2 4) a1) 17 (t.2.2.2 4) a2) 4 ((t.2.2.2 4) + 1)) = x_eapp a0 a1 a2 t := by
    rfl
  rw [hfin] at hP hD
  subst hQ
  have hpost : (nI (t.2.2.2 4)) = nI (t.2.2.2 4) := by
    rfl
  exact W.iret (v := (nI (t.2.2.2 4))) hx hb hr (fun t9 ht hW => ⟨⟨(nI (t.2.2.2 4)), (), rfl, hpost, by rw [ht]; exact hP, va_K.moved hW.alike hK, hD⟩, hS.F ht⟩) hS.2.2 de_E_append_42
set_option maxHeartbeats 4000000 in
set_option maxRecDepth 100000 in
theorem mt_T_isSlack (l : Launch) (dC : Nat → ClassId) (dI : Nat → Nat → Nat) (ad : Nat → Nat) (T : Nat → ClassId) (t : St) (i : Nat) (a1 : Int64) (hi0 : i < 4) (sz : Nat) : Met l yn_T_isSlack (.code yn_T_isSlack cd_T_isSlack 4 (some .boolean) :: UW) ({ frames := 0, cells := 0, slots := 0, locals := 0 } : Room) (va_Pc [.ref (ad 2), .int (nI i), .long a1] (Pw (dC, dI) CLS (TY T) (wS ad T t) sz)) (va_Qi (fun (r : Int32) (_ : Unit) => bz r (x_slack t i a1)) (Bw (dC, dI) CLS (TY T) (fun _ : Unit => (wS ad T t)) (va_A (wS ad T t) sz)) (va_A (wS ad T t) sz)) 0 0 (va_A (wS ad T t) sz) := by
  refine Met.ofW (cc := cd_T_isSlack) (maxL := 4) (ret := (some .boolean)) (by decide) rfl ?_
  intro p e s m args below meth c s₁ B hml hv
  obtain ⟨rfl, hsz, hP, hK, hD0, hN⟩ := hv
  have hx := B.exec
  have hb := B.bytes
  have hr := B.returns
  have hts : ∀ w ∈ UW, w.before _ s = true := fun w h => atoms_spec (ws := .code yn_T_isSlack cd_T_isSlack 4 (some .boolean) :: UW) B.pre w (List.mem_cons_of_mem _ h)
  have hown : s.vm.findClass "StabilitySums$Tanks" = some m.cls := findClass_of_methodNamed B.named
  have hlocks := B.notSynchronized
  subst hsz
  have hD := hD0.self (sz := s.heap.size)
  generalize hAe : va_A (wS ad T t) s.heap.size = A at hD ⊢
  have hA : ∀ q : Nat, s.heap.size ≤ q → A q := fun q h => by rw [← hAe]; exact Or.inr h
  have hS : va_S A s.heap s.heap [] := va_S.rf
  have hl := lv_entry ([.ref (ad 2), .int (nI i), .long a1]) (n := 4) (Nat.le_of_ble_eq_true rfl)
  rw [lg_entry_eq]
  generalize (lg_sl ([.ref (ad 2), .int (nI i), .long a1]) ++ List.replicate (4 - (lg_sl ([.ref (ad 2), .int (nI i), .long a1])).length) Slot.unset).toArray = ls at hl ⊢
  have hl : lv_has ls 4 [(0, .ref (ad 2)), (1, .int (nI i)), (2, .long a1)] := hl
  generalize hQ : MQ below _ _ s 0 0 A = Q
  refine lv_lload_n hx hb de_T_isSlack_0 rfl (lv_at hl 2 rfl) ?_
  refine lv_lconst (v := 0) hx hb de_T_isSlack_1 (by decide) ?_
  refine rw_le (tgt := 21) hx hb de_T_isSlack_2 de_T_isSlack_3 (by decide) (fun c_1 => ?_) (fun c_1 => ?_)
  · skip
    refine lv_iconst (v := 0) hx hb de_T_isSlack_21 (by decide) ?_
    subst hQ
    have hpost : bz 0 (x_slack t i a1) := by
      first | exact Or.inl ⟨rfl, by simp only [x_slack, Int64.lt_iff_toInt_lt, Int64.le_iff_toInt_le] at *; omega⟩ | exact Or.inr ⟨rfl, by simp only [x_slack, Int64.lt_iff_toInt_lt, Int64.le_iff_toInt_le] at *; omega⟩
    exact W.zret (v := 0) hx hb hr (bz_nar hpost) (fun t9 ht hW => ⟨⟨0, (), rfl, hpost, by rw [ht]; exact hP, va_K.moved hW.alike hK, hD⟩, hS.F ht⟩) hS.2.2 de_T_isSlack_22
  · skip
    refine lv_lload_n hx hb de_T_isSlack_6 rfl (lv_at hl 2 rfl) ?_
    refine lv_aload_n hx hb de_T_isSlack_7 rfl (lv_at hl 0 rfl) ?_
    refine va_get (D := (dC, dI)) (ci := 2) (v := .ref (ad 13)) (C := "StabilitySums$Tanks") (T := TB_T) (N := 9) hx hb hts ui_T hown hK hP 2 rfl rfl 0 (by decide) (hts _ uw_87) (fun _ h9 => h9) rfl de_T_isSlack_8 ?_
    refine lv_iload_n hx hb de_T_isSlack_11 rfl (lv_at hl 1 rfl) ?_
    refine rw_lald (f := t.1 4) (j := i) hx hb hK hP 13 0 rfl rfl (by omega) (by decide) de_T_isSlack_12 ?_
    refine rw_ge (tgt := 21) hx hb de_T_isSlack_13 de_T_isSlack_14 (by decide) (fun c_2 => ?_) (fun c_2 => ?_)
    · skip
      refine lv_iconst (v := 0) hx hb de_T_isSlack_21 (by decide) ?_
      subst hQ
      have hpost : bz 0 (x_slack t i a1) := by
        first | exact Or.inl ⟨rfl, by simp only [x_slack, Int64.lt_iff_toInt_lt, Int64.le_iff_toInt_le] at *; omega⟩ | exact Or.inr ⟨rfl, by simp only [x_slack, Int64.lt_iff_toInt_lt, Int64.le_iff_toInt_le] at *; omega⟩
      exact W.zret (v := 0) hx hb hr (bz_nar hpost) (fun t9 ht hW => ⟨⟨0, (), rfl, hpost, by rw [ht]; exact hP, va_K.moved hW.alike hK, hD⟩, hS.F ht⟩) hS.2.2 de_T_isSlack_22
    · skip
      refine lv_iconst (v := 1) hx hb de_T_isSlack_17 (by decide) ?_
      refine lv_goto (tgt := 22) hx hb de_T_isSlack_18 (by decide) ?_
      subst hQ
      have hpost : bz 1 (x_slack t i a1) := by
        first | exact Or.inl ⟨rfl, by simp only [x_slack, Int64.lt_iff_toInt_lt, Int64.le_iff_toInt_le] at *; omega⟩ | exact Or.inr ⟨rfl, by simp only [x_slack, Int64.lt_iff_toInt_lt, Int64.le_iff_toInt_le] at *; omega⟩
      exact W.zret (v := 1) hx hb hr (bz_nar hpost) (fun t9 ht hW => ⟨⟨1, (), rfl, hpost, by rw [ht]; exact hP, va_K.moved hW.alike hK, hD⟩, hS.F ht⟩) hS.2.2 de_T_isSlack_22
set_option maxHeartbeats 4000000 in
set_option maxRecDepth 100000 in
theorem mt_T_surfaceOf (l : Launch) (dC : Nat → ClassId) (dI : Nat → Nat → Nat) (ad : Nat → Nat) (T : Nat → ClassId) (t : St) (i : Nat) (a1 : Int64) (hi0 : i < 4) (sz : Nat) : Met l yn_T_surfaceOf (.code yn_T_surfaceOf cd_T_surfaceOf 4 (some .long) :: UW) ({ frames := 1, cells := 0, slots := 0, locals := 23 } : Room) (va_Pc [.ref (ad 2), .int (nI i), .long a1] (Pw (dC, dI) CLS (TY T) (wS ad T t) sz)) (va_Ql (fun (r : Int64) (_ : Unit) => r = x_surf t i a1) (Bw (dC, dI) CLS (TY T) (fun _ : Unit => (wS ad T t)) (va_A (wS ad T t) sz)) (va_A (wS ad T t) sz)) 0 0 (va_A (wS ad T t) sz) := by
  refine Met.ofW (cc := cd_T_surfaceOf) (maxL := 4) (ret := (some .long)) (by decide) rfl ?_
  intro p e s m args below meth c s₁ B hml hv
  obtain ⟨rfl, hsz, hP, hK, hD0, hN⟩ := hv
  have hx := B.exec
  have hb := B.bytes
  have hr := B.returns
  have hts : ∀ w ∈ UW, w.before _ s = true := fun w h => atoms_spec (ws := .code yn_T_surfaceOf cd_T_surfaceOf 4 (some .long) :: UW) B.pre w (List.mem_cons_of_mem _ h)
  have hown : s.vm.findClass "StabilitySums$Tanks" = some m.cls := findClass_of_methodNamed B.named
  have hlocks := B.notSynchronized
  subst hsz
  have hD := hD0.self (sz := s.heap.size)
  generalize hAe : va_A (wS ad T t) s.heap.size = A at hD ⊢
  have hA : ∀ q : Nat, s.heap.size ≤ q → A q := fun q h => by rw [← hAe]; exact Or.inr h
  have hS : va_S A s.heap s.heap [] := va_S.rf
  have hl := lv_entry ([.ref (ad 2), .int (nI i), .long a1]) (n := 4) (Nat.le_of_ble_eq_true rfl)
  rw [lg_entry_eq]
  generalize (lg_sl ([.ref (ad 2), .int (nI i), .long a1]) ++ List.replicate (4 - (lg_sl ([.ref (ad 2), .int (nI i), .long a1])).length) Slot.unset).toArray = ls at hl ⊢
  have hl : lv_has ls 4 [(0, .ref (ad 2)), (1, .int (nI i)), (2, .long a1)] := hl
  generalize hQ : MQ below _ _ s 0 0 A = Q
  refine lv_aload_n hx hb de_T_surfaceOf_0 rfl (lv_at hl 0 rfl) ?_
  refine lv_iload_n hx hb de_T_surfaceOf_1 rfl (lv_at hl 1 rfl) ?_
  refine lv_lload_n hx hb de_T_surfaceOf_2 rfl (lv_at hl 2 rfl) ?_
  refine cl_Vi (As := [.int (nI i), .long a1]) (rest := []) ⟨hx, hb, hml, hown, hts⟩ (mt_T_isSlack l dC dI ad T t i a1 (by omega)) (cwV 2 hts (uw_V uw_337 uw_338 uw_339 uw_29 uw_340) rfl rfl rfl (by decide +kernel) ⟨Nat.le_of_ble_eq_true rfl, Nat.le_of_ble_eq_true rfl⟩) (va_recv hK hP (ci := 2) (q0 := 2) rfl rfl) rfl hl.1 rfl (by decide) de_T_surfaceOf_3 ⟨Nat.zero_le _, Nat.zero_le _⟩ hK hN hP hD hS hA (fun r_1 _ H locs hw_1 hP hD hS => ?_)
  have hw_1 : bz r_1 (x_slack t i a1) := hw_1
  refine lv_if_eq (tgt := 18) hx hb de_T_surfaceOf_6 (by decide) (fun c_2 => ?_) (fun c_2 => ?_)
  · skip
    have c_2 := bz_f hw_1 c_2
    refine lv_lconst (v := 0) hx hb de_T_surfaceOf_18 (by decide) ?_
    subst hQ
    have hpost : 0 = x_surf t i a1 := by
      unfold x_surf; first | rw [if_pos c_2] | rw [if_neg c_2]
    exact W.lret (v := 0) hx hb hr (fun t9 ht hW => ⟨⟨0, (), rfl, hpost, by rw [ht]; exact hP, va_K.moved hW.alike hK, hD⟩, hS.F ht⟩) hS.2.2 de_T_surfaceOf_19
  · skip
    have c_2 := bz_t hw_1 c_2
    refine lv_aload_n hx hb de_T_surfaceOf_9 rfl (lv_at hl 0 rfl) ?_
    refine va_get (D := (dC, dI)) (ci := 2) (v := .ref (ad 14)) (C := "StabilitySums$Tanks") (T := TB_T) (N := 9) hx hb hts ui_T hown hK hP 2 rfl rfl 1 (by decide) (hts _ uw_89) (fun _ h9 => h9) rfl de_T_surfaceOf_10 ?_
    refine lv_iload_n hx hb de_T_surfaceOf_13 rfl (lv_at hl 1 rfl) ?_
    refine rw_lald (f := t.1 5) (j := i) hx hb hK hP 14 0 rfl rfl (by omega) (by decide) de_T_surfaceOf_14 ?_
    refine lv_goto (tgt := 19) hx hb de_T_surfaceOf_15 (by decide) ?_
    subst hQ
    have hpost : (t.1 5 i) = x_surf t i a1 := by
      unfold x_surf; first | rw [if_pos c_2] | rw [if_neg c_2]
    exact W.lret (v := (t.1 5 i)) hx hb hr (fun t9 ht hW => ⟨⟨(t.1 5 i), (), rfl, hpost, by rw [ht]; exact hP, va_K.moved hW.alike hK, hD⟩, hS.F ht⟩) hS.2.2 de_T_surfaceOf_19
set_option maxHeartbeats 4000000 in
set_option maxRecDepth 100000 in
theorem mt_T_countSlack (l : Launch) (dC : Nat → ClassId) (dI : Nat → Nat → Nat) (ad : Nat → Nat) (T : Nat → ClassId) (t : St)  (hc : t.2.2.2 1 ≤ 4) (sz : Nat) : Met l yn_T_countSlack (.code yn_T_countSlack cd_T_countSlack 3 (some .int) :: UW) ({ frames := 1, cells := 0, slots := 0, locals := 23 } : Room) (va_Pc [.ref (ad 2)] (Pw (dC, dI) CLS (TY T) (wS ad T t) sz)) (va_Qi (fun (r : Int32) (_ : Unit) => r = nI (x_cs t (t.2.2.2 1) 0 0)) (Bw (dC, dI) CLS (TY T) (fun _ : Unit => (wS ad T t)) (va_A (wS ad T t) sz)) (va_A (wS ad T t) sz)) 0 0 (va_A (wS ad T t) sz) := by
  refine Met.ofW (cc := cd_T_countSlack) (maxL := 3) (ret := (some .int)) (by decide) rfl ?_
  intro p e s m args below meth c s₁ B hml hv
  obtain ⟨rfl, hsz, hP, hK, hD0, hN⟩ := hv
  have hx := B.exec
  have hb := B.bytes
  have hr := B.returns
  have hts : ∀ w ∈ UW, w.before _ s = true := fun w h => atoms_spec (ws := .code yn_T_countSlack cd_T_countSlack 3 (some .int) :: UW) B.pre w (List.mem_cons_of_mem _ h)
  have hown : s.vm.findClass "StabilitySums$Tanks" = some m.cls := findClass_of_methodNamed B.named
  have hlocks := B.notSynchronized
  subst hsz
  have hD := hD0.self (sz := s.heap.size)
  generalize hAe : va_A (wS ad T t) s.heap.size = A at hD ⊢
  have hA : ∀ q : Nat, s.heap.size ≤ q → A q := fun q h => by rw [← hAe]; exact Or.inr h
  have hS : va_S A s.heap s.heap [] := va_S.rf
  have hl := lv_entry ([.ref (ad 2)]) (n := 3) (Nat.le_of_ble_eq_true rfl)
  rw [lg_entry_eq]
  generalize (lg_sl ([.ref (ad 2)]) ++ List.replicate (3 - (lg_sl ([.ref (ad 2)])).length) Slot.unset).toArray = ls at hl ⊢
  have hl : lv_has ls 3 [(0, .ref (ad 2))] := hl
  generalize hQ : MQ below _ _ s 0 0 A = Q
  refine lv_iconst (v := 0) hx hb de_T_countSlack_0 (by decide) ?_
  refine lv_istore_n (lv' := [(1, .int 0), (0, .ref (ad 2))]) hx hb de_T_countSlack_1 rfl hl (by decide) rfl (fun ls hl => ?_)
  refine lv_iconst (v := 0) hx hb de_T_countSlack_2 (by decide) ?_
  refine lv_istore_n (lv' := [(2, .int 0), (1, .int 0), (0, .ref (ad 2))]) hx hb de_T_countSlack_3 rfl hl (by decide) rfl (fun ls hl => ?_)
  have loop_4 : ∀ (n : Nat) (i a : Nat), (i + n = t.2.2.2 1) → (a ≤ i) → (x_cs t n i a = x_cs t (t.2.2.2 1) 0 0) → ∀ (H : Heap) (locs : List Loc) (ls : Array Slot), va_P (dC, dI) CLS (wS ad T t) H → va_D A (wS ad T t) → va_S A s.heap H locs → lv_has ls 3 [(0, .ref (ad 2)), (1, .int (nI a)), (2, .int (nI i))] → W p l e (headSpec (.code yn_T_countSlack cd_T_countSlack 3 (some .int) :: UW) ({ frames := 1, cells := 0, slots := 0, locals := 23 } : Room)).room s m ([.ref (ad 2)] : List Value).toArray below meth c H locs 0 0 Q (F0 m 4 ls []) := by
    intro n
    induction n with
    | zero =>
      intro i a hi ha hq H locs ls hP hD hS hl
      refine lv_iload_n hx hb de_T_countSlack_4 rfl (lv_at hl 2 rfl) ?_
      refine lv_aload_n hx hb de_T_countSlack_5 rfl (lv_at hl 0 rfl) ?_
      refine va_get (D := (dC, dI)) (ci := 2) (v := .int (nI (t.2.2.2 1))) (C := "StabilitySums$Tanks") (T := TB_T) (N := 9) hx hb hts ui_T hown hK hP 2 rfl rfl 8 (by decide) (hts _ uw_102) (fun _ h9 => h9) rfl de_T_countSlack_6 ?_
      refine lv_icmp_ge (tgt := 35) hx hb de_T_countSlack_9 (by decide) (fun c_1 => ?_) (fun c_1 => ?_)
      · skip
        have c_1 : (t.2.2.2 1) ≤ i := (nI_leI (a := (t.2.2.2 1)) (b := i) (by omega) (by omega)).mp c_1
        refine lv_iload_n hx hb de_T_countSlack_35 rfl (lv_at hl 1 rfl) ?_
        subst hQ
        have hpost : (nI a) = nI (x_cs t (t.2.2.2 1) 0 0) := by
          rw [← hq]; rfl
        exact W.iret (v := (nI a)) hx hb hr (fun t9 ht hW => ⟨⟨(nI a), (), rfl, hpost, by rw [ht]; exact hP, va_K.moved hW.alike hK, hD⟩, hS.F ht⟩) hS.2.2 de_T_countSlack_36
      · skip
        have c_1 : ¬ ((t.2.2.2 1) ≤ i) := fun z => c_1 ((nI_leI (a := (t.2.2.2 1)) (b := i) (by omega) (by omega)).mpr z)
        exfalso; omega
    | succ n ih =>
      intro i a hi ha hq H locs ls hP hD hS hl
      refine lv_iload_n hx hb de_T_countSlack_4 rfl (lv_at hl 2 rfl) ?_
      refine lv_aload_n hx hb de_T_countSlack_5 rfl (lv_at hl 0 rfl) ?_
      refine va_get (D := (dC, dI)) (ci := 2) (v := .int (nI (t.2.2.2 1))) (C := "StabilitySums$Tanks") (T := TB_T) (N := 9) hx hb hts ui_T hown hK hP 2 rfl rfl 8 (by decide) (hts _ uw_102) (fun _ h9 => h9) rfl de_T_countSlack_6 ?_
      refine lv_icmp_ge (tgt := 35) hx hb de_T_countSlack_9 (by decide) (fun c_2 => ?_) (fun c_2 => ?_)
      · skip
        have c_2 : (t.2.2.2 1) ≤ i := (nI_leI (a := (t.2.2.2 1)) (b := i) (by omega) (by omega)).mp c_2
        exfalso; omega
      · skip
        have c_2 : ¬ ((t.2.2.2 1) ≤ i) := fun z => c_2 ((nI_leI (a := (t.2.2.2 1)) (b := i) (by omega) (by omega)).mpr z)
        refine lv_aload_n hx hb de_T_countSlack_12 rfl (lv_at hl 0 rfl) ?_
        refine lv_iload_n hx hb de_T_countSlack_13 rfl (lv_at hl 2 rfl) ?_
        refine lv_aload_n hx hb de_T_countSlack_14 rfl (lv_at hl 0 rfl) ?_
        refine va_get (D := (dC, dI)) (ci := 2) (v := .ref (ad 18)) (C := "StabilitySums$Tanks") (T := TB_T) (N := 9) hx hb hts ui_T hown hK hP 2 rfl rfl 5 (by decide) (hts _ uw_96) (fun _ h9 => h9) rfl de_T_countSlack_15 ?_
        refine lv_iload_n hx hb de_T_countSlack_18 rfl (lv_at hl 2 rfl) ?_
        refine rw_lald (f := t.1 9) (j := i) hx hb hK hP 18 0 rfl rfl (by omega) (by decide) de_T_countSlack_19 ?_
        refine cl_Vi (As := [.int (nI i), .long (t.1 9 i)]) (rest := []) ⟨hx, hb, hml, hown, hts⟩ (mt_T_isSlack l dC dI ad T t i (t.1 9 i) (by omega)) (cwV 2 hts (uw_V uw_337 uw_338 uw_339 uw_29 uw_340) rfl rfl rfl (by decide +kernel) ⟨Nat.le_of_ble_eq_true rfl, Nat.le_of_ble_eq_true rfl⟩) (va_recv hK hP (ci := 2) (q0 := 2) rfl rfl) rfl hl.1 rfl (by decide) de_T_countSlack_20 ⟨Nat.zero_le _, Nat.zero_le _⟩ hK hN hP hD hS hA (fun r_3 _ H locs hw_3 hP hD hS => ?_)
        have hw_3 : bz r_3 (x_slack t i (t.1 9 i)) := hw_3
        refine lv_if_eq (tgt := 29) hx hb de_T_countSlack_23 (by decide) (fun c_4 => ?_) (fun c_4 => ?_)
        · skip
          have c_4 := bz_f hw_3 c_4
          refine lv_iinc (v := (nI (i + 1))) (lv' := [(2, .int (nI (i + 1))), (0, .ref (ad 2)), (1, .int (nI a))]) hx hb de_T_countSlack_29 hl (k := 2) rfl (nI_1 i) (by decide) rfl (fun ls hl => ?_)
          refine lv_goto (tgt := 4) hx hb de_T_countSlack_32 (by decide) ?_
          exact ih (i + 1) a (by omega) (by omega) (by rw [← hq, x_cs]; first | rw [if_pos c_4] | rw [if_neg c_4]) H locs ls hP hD hS (lv_sub hl [1, 2, 0] rfl)
        · skip
          have c_4 := bz_t hw_3 c_4
          refine lv_iinc (v := (nI (a + 1))) (lv' := [(1, .int (nI (a + 1))), (0, .ref (ad 2)), (2, .int (nI i))]) hx hb de_T_countSlack_26 hl (k := 1) rfl (nI_1 a) (by decide) rfl (fun ls hl => ?_)
          refine lv_iinc (v := (nI (i + 1))) (lv' := [(2, .int (nI (i + 1))), (1, .int (nI (a + 1))), (0, .ref (ad 2))]) hx hb de_T_countSlack_29 hl (k := 2) rfl (nI_1 i) (by decide) rfl (fun ls hl => ?_)
          refine lv_goto (tgt := 4) hx hb de_T_countSlack_32 (by decide) ?_
          exact ih (i + 1) (a + 1) (by omega) (by omega) (by rw [← hq, x_cs]; first | rw [if_pos c_4] | rw [if_neg c_4]) H locs ls hP hD hS (lv_sub hl [2, 1, 0] rfl)
  exact loop_4 (t.2.2.2 1) 0 0 (by omega) (by omega) rfl _ _ ls hP hD hS (lv_sub hl [2, 1, 0] rfl)
set_option maxHeartbeats 4000000 in
set_option maxRecDepth 100000 in
theorem mt_T_workOfTried (l : Launch) (dC : Nat → ClassId) (dI : Nat → Nat → Nat) (ad : Nat → Nat) (T : Nat → ClassId) (t : St)  (hc : t.2.2.2 1 ≤ 4) (sz : Nat) : Met l yn_T_workOfTried (.code yn_T_workOfTried cd_T_workOfTried 4 (some .long) :: UW) ({ frames := 1, cells := 0, slots := 0, locals := 21 } : Room) (va_Pc [.ref (ad 2)] (Pw (dC, dI) CLS (TY T) (wS ad T t) sz)) (va_Ql (fun (r : Int64) (_ : Unit) => r = x_wk t (t.2.2.2 1) 0 0) (Bw (dC, dI) CLS (TY T) (fun _ : Unit => (wS ad T t)) (va_A (wS ad T t) sz)) (va_A (wS ad T t) sz)) 0 0 (va_A (wS ad T t) sz) := by
  refine Met.ofW (cc := cd_T_workOfTried) (maxL := 4) (ret := (some .long)) (by decide) rfl ?_
  intro p e s m args below meth c s₁ B hml hv
  obtain ⟨rfl, hsz, hP, hK, hD0, hN⟩ := hv
  have hx := B.exec
  have hb := B.bytes
  have hr := B.returns
  have hts : ∀ w ∈ UW, w.before _ s = true := fun w h => atoms_spec (ws := .code yn_T_workOfTried cd_T_workOfTried 4 (some .long) :: UW) B.pre w (List.mem_cons_of_mem _ h)
  have hown : s.vm.findClass "StabilitySums$Tanks" = some m.cls := findClass_of_methodNamed B.named
  have hlocks := B.notSynchronized
  subst hsz
  have hD := hD0.self (sz := s.heap.size)
  generalize hAe : va_A (wS ad T t) s.heap.size = A at hD ⊢
  have hA : ∀ q : Nat, s.heap.size ≤ q → A q := fun q h => by rw [← hAe]; exact Or.inr h
  have hS : va_S A s.heap s.heap [] := va_S.rf
  have hl := lv_entry ([.ref (ad 2)]) (n := 4) (Nat.le_of_ble_eq_true rfl)
  rw [lg_entry_eq]
  generalize (lg_sl ([.ref (ad 2)]) ++ List.replicate (4 - (lg_sl ([.ref (ad 2)])).length) Slot.unset).toArray = ls at hl ⊢
  have hl : lv_has ls 4 [(0, .ref (ad 2))] := hl
  generalize hQ : MQ below _ _ s 0 0 A = Q
  refine lv_lconst (v := 0) hx hb de_T_workOfTried_0 (by decide) ?_
  refine lv_lstore_n (lv' := [(1, .long 0), (0, .ref (ad 2))]) hx hb de_T_workOfTried_1 rfl hl (by decide) rfl (fun ls hl => ?_)
  refine lv_iconst (v := 0) hx hb de_T_workOfTried_2 (by decide) ?_
  refine lv_istore_n (lv' := [(3, .int 0), (1, .long 0), (0, .ref (ad 2))]) hx hb de_T_workOfTried_3 rfl hl (by decide) rfl (fun ls hl => ?_)
  have loop_4 : ∀ (n : Nat) (i : Nat) (a : Int64), (i + n = t.2.2.2 1) → (x_wk t n i a = x_wk t (t.2.2.2 1) 0 0) → ∀ (H : Heap) (locs : List Loc) (ls : Array Slot), va_P (dC, dI) CLS (wS ad T t) H → va_D A (wS ad T t) → va_S A s.heap H locs → lv_has ls 4 [(0, .ref (ad 2)), (1, .long a), (3, .int (nI i))] → W p l e (headSpec (.code yn_T_workOfTried cd_T_workOfTried 4 (some .long) :: UW) ({ frames := 1, cells := 0, slots := 0, locals := 21 } : Room)).room s m ([.ref (ad 2)] : List Value).toArray below meth c H locs 0 0 Q (F0 m 4 ls []) := by
    intro n
    induction n with
    | zero =>
      intro i a hi hq H locs ls hP hD hS hl
      refine lv_iload_n hx hb de_T_workOfTried_4 rfl (lv_at hl 2 rfl) ?_
      refine lv_aload_n hx hb de_T_workOfTried_5 rfl (lv_at hl 0 rfl) ?_
      refine va_get (D := (dC, dI)) (ci := 2) (v := .int (nI (t.2.2.2 1))) (C := "StabilitySums$Tanks") (T := TB_T) (N := 9) hx hb hts ui_T hown hK hP 2 rfl rfl 8 (by decide) (hts _ uw_102) (fun _ h9 => h9) rfl de_T_workOfTried_6 ?_
      refine lv_icmp_ge (tgt := 37) hx hb de_T_workOfTried_9 (by decide) (fun c_1 => ?_) (fun c_1 => ?_)
      · skip
        have c_1 : (t.2.2.2 1) ≤ i := (nI_leI (a := (t.2.2.2 1)) (b := i) (by omega) (by omega)).mp c_1
        refine lv_lload_n hx hb de_T_workOfTried_37 rfl (lv_at hl 1 rfl) ?_
        subst hQ
        have hpost : a = x_wk t (t.2.2.2 1) 0 0 := by
          rw [← hq]; rfl
        exact W.lret (v := a) hx hb hr (fun t9 ht hW => ⟨⟨a, (), rfl, hpost, by rw [ht]; exact hP, va_K.moved hW.alike hK, hD⟩, hS.F ht⟩) hS.2.2 de_T_workOfTried_38
      · skip
        have c_1 : ¬ ((t.2.2.2 1) ≤ i) := fun z => c_1 ((nI_leI (a := (t.2.2.2 1)) (b := i) (by omega) (by omega)).mpr z)
        exfalso; omega
    | succ n ih =>
      intro i a hi hq H locs ls hP hD hS hl
      refine lv_iload_n hx hb de_T_workOfTried_4 rfl (lv_at hl 2 rfl) ?_
      refine lv_aload_n hx hb de_T_workOfTried_5 rfl (lv_at hl 0 rfl) ?_
      refine va_get (D := (dC, dI)) (ci := 2) (v := .int (nI (t.2.2.2 1))) (C := "StabilitySums$Tanks") (T := TB_T) (N := 9) hx hb hts ui_T hown hK hP 2 rfl rfl 8 (by decide) (hts _ uw_102) (fun _ h9 => h9) rfl de_T_workOfTried_6 ?_
      refine lv_icmp_ge (tgt := 37) hx hb de_T_workOfTried_9 (by decide) (fun c_2 => ?_) (fun c_2 => ?_)
      · skip
        have c_2 : (t.2.2.2 1) ≤ i := (nI_leI (a := (t.2.2.2 1)) (b := i) (by omega) (by omega)).mp c_2
        exfalso; omega
      · skip
        have c_2 : ¬ ((t.2.2.2 1) ≤ i) := fun z => c_2 ((nI_leI (a := (t.2.2.2 1)) (b := i) (by omega) (by omega)).mpr z)
        refine lv_lload_n hx hb de_T_workOfTried_12 rfl (lv_at hl 1 rfl) ?_
        refine lv_aload_n hx hb de_T_workOfTried_13 rfl (lv_at hl 0 rfl) ?_
        refine va_get (D := (dC, dI)) (ci := 2) (v := .ref (ad 19)) (C := "StabilitySums$Tanks") (T := TB_T) (N := 9) hx hb hts ui_T hown hK hP 2 rfl rfl 6 (by decide) (hts _ uw_98) (fun _ h9 => h9) rfl de_T_workOfTried_14 ?_
        refine lv_iload_n hx hb de_T_workOfTried_17 rfl (lv_at hl 2 rfl) ?_
        refine rw_lald (f := t.1 10) (j := i) hx hb hK hP 19 0 rfl rfl (by omega) (by decide) de_T_workOfTried_18 ?_
        refine lv_aload_n hx hb de_T_workOfTried_19 rfl (lv_at hl 0 rfl) ?_
        refine va_get (D := (dC, dI)) (ci := 2) (v := .ref (ad 18)) (C := "StabilitySums$Tanks") (T := TB_T) (N := 9) hx hb hts ui_T hown hK hP 2 rfl rfl 5 (by decide) (hts _ uw_96) (fun _ h9 => h9) rfl de_T_workOfTried_20 ?_
        refine lv_iload_n hx hb de_T_workOfTried_23 rfl (lv_at hl 2 rfl) ?_
        refine rw_lald (f := t.1 9) (j := i) hx hb hK hP 18 0 rfl rfl (by omega) (by decide) de_T_workOfTried_24 ?_
        refine lv_lsub hx hb de_T_workOfTried_25 ?_
        refine lv_topl (fun v_3 ev_3 => ?_)
        have ev_3 : v_3 = (t.1 10 i) - (t.1 9 i) := ev_3
        refine va_mabs_long hx hb (hml.trans hl.1.symm) hown (hts _ uw_412) (hts _ uw_413) (hts _ uw_43) (hts _ uw_414) (Nat.le_of_ble_eq_true rfl) (Nat.le_of_ble_eq_true rfl) (Nat.zero_le _) (Nat.zero_le _) de_T_workOfTried_26 ?_
        refine lv_topl (fun v_4 ev_4 => ?_)
        have ev_4 : v_4 = (if 0 < v_3 then v_3 else -v_3) := ev_4
        refine lv_ladd hx hb de_T_workOfTried_29 ?_
        refine lv_topl (fun v_5 ev_5 => ?_)
        have ev_5 : v_5 = a + v_4 := ev_5
        refine lv_lstore_n (lv' := [(1, .long v_5), (0, .ref (ad 2)), (3, .int (nI i))]) hx hb de_T_workOfTried_30 rfl hl (by decide) rfl (fun ls hl => ?_)
        refine lv_iinc (v := (nI (i + 1))) (lv' := [(3, .int (nI (i + 1))), (1, .long v_5), (0, .ref (ad 2))]) hx hb de_T_workOfTried_31 hl (k := 2) rfl (nI_1 i) (by decide) rfl (fun ls hl => ?_)
        refine lv_goto (tgt := 4) hx hb de_T_workOfTried_34 (by decide) ?_
        exact ih (i + 1) v_5 (by omega) (by rw [← hq, x_wk]; subst_vars; rfl) H locs ls hP hD hS (lv_sub hl [2, 1, 0] rfl)
  exact loop_4 (t.2.2.2 1) 0 0 (by omega) rfl _ _ ls hP hD hS (lv_sub hl [2, 1, 0] rfl)
set_option maxHeartbeats 4000000 in
set_option maxRecDepth 100000 in
theorem mt_T_keepTried (l : Launch) (dC : Nat → ClassId) (dI : Nat → Nat → Nat) (ad : Nat → Nat) (T : Nat → ClassId) (t : St)  (hc : t.2.2.2 1 ≤ 4) (sz : Nat) : Met l yn_T_keepTried (.code yn_T_keepTried cd_T_keepTried 2 none :: UW) ({ frames := 0, cells := 0, slots := 0, locals := 0 } : Room) (va_Pc [.ref (ad 2)] (Pw (dC, dI) CLS (TY T) (wS ad T t) sz)) (va_Qv (fun _ : Unit => True) (Bw (dC, dI) CLS (TY T) (fun _ : Unit => (wS ad T (x_kt (t.2.2.2 1) 0 t))) (va_A (wS ad T t) sz)) (va_A (wS ad T t) sz)) 0 0 (va_A (wS ad T t) sz) := by
  refine Met.ofW (cc := cd_T_keepTried) (maxL := 2) (ret := none) (by decide) rfl ?_
  intro p e s m args below meth c s₁ B hml hv
  obtain ⟨rfl, hsz, hP, hK, hD0, hN⟩ := hv
  have hx := B.exec
  have hb := B.bytes
  have hr := B.returns
  have hts : ∀ w ∈ UW, w.before _ s = true := fun w h => atoms_spec (ws := .code yn_T_keepTried cd_T_keepTried 2 none :: UW) B.pre w (List.mem_cons_of_mem _ h)
  have hown : s.vm.findClass "StabilitySums$Tanks" = some m.cls := findClass_of_methodNamed B.named
  have hlocks := B.notSynchronized
  subst hsz
  have hD := hD0.self (sz := s.heap.size)
  generalize hAe : va_A (wS ad T t) s.heap.size = A at hD ⊢
  have hA : ∀ q : Nat, s.heap.size ≤ q → A q := fun q h => by rw [← hAe]; exact Or.inr h
  have hS : va_S A s.heap s.heap [] := va_S.rf
  have hl := lv_entry ([.ref (ad 2)]) (n := 2) (Nat.le_of_ble_eq_true rfl)
  rw [lg_entry_eq]
  generalize (lg_sl ([.ref (ad 2)]) ++ List.replicate (2 - (lg_sl ([.ref (ad 2)])).length) Slot.unset).toArray = ls at hl ⊢
  have hl : lv_has ls 2 [(0, .ref (ad 2))] := hl
  generalize hQ : MQ below _ _ s 0 0 A = Q
  refine lv_iconst (v := 0) hx hb de_T_keepTried_0 (by decide) ?_
  refine lv_istore_n (lv' := [(1, .int 0), (0, .ref (ad 2))]) hx hb de_T_keepTried_1 rfl hl (by decide) rfl (fun ls hl => ?_)
  have loop_2 : ∀ (n : Nat) (i : Nat) (t1 : St), (i + n = t.2.2.2 1) → (t1.2.2.2 1 = t.2.2.2 1) → (x_kt n i t1 = x_kt (t.2.2.2 1) 0 t) → ∀ (H : Heap) (locs : List Loc) (ls : Array Slot), va_P (dC, dI) CLS (wS ad T t1) H → va_D A (wS ad T t1) → va_S A s.heap H locs → lv_has ls 2 [(0, .ref (ad 2)), (1, .int (nI i))] → W p l e (headSpec (.code yn_T_keepTried cd_T_keepTried 2 none :: UW) ({ frames := 0, cells := 0, slots := 0, locals := 0 } : Room)).room s m ([.ref (ad 2)] : List Value).toArray below meth c H locs 0 0 Q (F0 m 2 ls []) := by
    intro n
    induction n with
    | zero =>
      intro i t1 hi hk hq H locs ls hP hD hS hl
      refine lv_iload_n hx hb de_T_keepTried_2 rfl (lv_at hl 1 rfl) ?_
      refine lv_aload_n hx hb de_T_keepTried_3 rfl (lv_at hl 0 rfl) ?_
      refine va_get (D := (dC, dI)) (ci := 2) (v := .int (nI (t1.2.2.2 1))) (C := "StabilitySums$Tanks") (T := TB_T) (N := 9) hx hb hts ui_T hown hK hP 2 rfl rfl 8 (by decide) (hts _ uw_102) (fun _ h9 => h9) rfl de_T_keepTried_4 ?_
      refine lv_icmp_ge (tgt := 28) hx hb de_T_keepTried_7 (by decide) (fun c_1 => ?_) (fun c_1 => ?_)
      · skip
        have c_1 : (t1.2.2.2 1) ≤ i := (nI_leI (a := (t1.2.2.2 1)) (b := i) (by omega) (by omega)).mp c_1
        have hfin : t1 = x_kt (t.2.2.2 1) 0 t := by
          exact hq
        rw [hfin] at hP hD
        subst hQ
        exact W.vret hx hb hr (fun t9 ht hW => ⟨⟨(), rfl, trivial, by rw [ht]; exact hP, va_K.moved hW.alike hK, hD⟩, hS.F ht⟩) hS.2.2 de_T_keepTried_28
      · skip
        have c_1 : ¬ ((t1.2.2.2 1) ≤ i) := fun z => c_1 ((nI_leI (a := (t1.2.2.2 1)) (b := i) (by omega) (by omega)).mpr z)
        exfalso; omega
    | succ n ih =>
      intro i t1 hi hk hq H locs ls hP hD hS hl
      refine lv_iload_n hx hb de_T_keepTried_2 rfl (lv_at hl 1 rfl) ?_
      refine lv_aload_n hx hb de_T_keepTried_3 rfl (lv_at hl 0 rfl) ?_
      refine va_get (D := (dC, dI)) (ci := 2) (v := .int (nI (t1.2.2.2 1))) (C := "StabilitySums$Tanks") (T := TB_T) (N := 9) hx hb hts ui_T hown hK hP 2 rfl rfl 8 (by decide) (hts _ uw_102) (fun _ h9 => h9) rfl de_T_keepTried_4 ?_
      refine lv_icmp_ge (tgt := 28) hx hb de_T_keepTried_7 (by decide) (fun c_2 => ?_) (fun c_2 => ?_)
      · skip
        have c_2 : (t1.2.2.2 1) ≤ i := (nI_leI (a := (t1.2.2.2 1)) (b := i) (by omega) (by omega)).mp c_2
        exfalso; omega
      · skip
        have c_2 : ¬ ((t1.2.2.2 1) ≤ i) := fun z => c_2 ((nI_leI (a := (t1.2.2.2 1)) (b := i) (by omega) (by omega)).mpr z)
        refine lv_aload_n hx hb de_T_keepTried_10 rfl (lv_at hl 0 rfl) ?_
        refine va_get (D := (dC, dI)) (ci := 2) (v := .ref (ad 20)) (C := "StabilitySums$Tanks") (T := TB_T) (N := 9) hx hb hts ui_T hown hK hP 2 rfl rfl 7 (by decide) (hts _ uw_100) (fun _ h9 => h9) rfl de_T_keepTried_11 ?_
        refine lv_iload_n hx hb de_T_keepTried_14 rfl (lv_at hl 1 rfl) ?_
        refine lv_aload_n hx hb de_T_keepTried_15 rfl (lv_at hl 0 rfl) ?_
        refine va_get (D := (dC, dI)) (ci := 2) (v := .ref (ad 19)) (C := "StabilitySums$Tanks") (T := TB_T) (N := 9) hx hb hts ui_T hown hK hP 2 rfl rfl 6 (by decide) (hts _ uw_98) (fun _ h9 => h9) rfl de_T_keepTried_16 ?_
        refine lv_iload_n hx hb de_T_keepTried_19 rfl (lv_at hl 1 rfl) ?_
        refine rw_lald (f := t1.1 10) (j := i) hx hb hK hP 19 0 rfl rfl (by omega) (by decide) de_T_keepTried_20 ?_
        refine rw_last (f := t1.1 11) (j := i) (x := (t1.1 10 i)) hx hb hK hP hD hS 20 0 rfl rfl (by omega) (by decide) de_T_keepTried_21 (fun H locs hP hD hS => ?_)
        have hP : va_P (dC, dI) CLS (wS ad T (sL t1 11 i (t1.1 10 i))) H := hP
        have hD : va_D A (wS ad T (sL t1 11 i (t1.1 10 i))) := hD
        refine lv_iinc (v := (nI (i + 1))) (lv' := [(1, .int (nI (i + 1))), (0, .ref (ad 2))]) hx hb de_T_keepTried_22 hl (k := 1) rfl (nI_1 i) (by decide) rfl (fun ls hl => ?_)
        refine lv_goto (tgt := 2) hx hb de_T_keepTried_25 (by decide) ?_
        exact ih (i + 1) (sL t1 11 i (t1.1 10 i)) (by omega) hk hq H locs ls hP hD hS (lv_sub hl [1, 0] rfl)
  exact loop_2 (t.2.2.2 1) 0 t (by omega) rfl rfl _ _ ls hP hD hS (lv_sub hl [1, 0] rfl)
set_option maxHeartbeats 4000000 in
set_option maxRecDepth 100000 in
theorem mt_B_lastDisplacement (l : Launch) (dC : Nat → ClassId) (dI : Nat → Nat → Nat) (ad : Nat → Nat) (T : Nat → ClassId) (t : St)  (hc : t.2.2.2 2 ≤ 12) (sz : Nat) : Met l yn_B_lastDisplacement (.code yn_B_lastDisplacement cd_B_lastDisplacement 1 (some .long) :: UW) ({ frames := 0, cells := 0, slots := 0, locals := 0 } : Room) (va_Pc [.ref (ad 3)] (Pw (dC, dI) CLS (TY T) (wS ad T t) sz)) (va_Ql (fun (r : Int64) (_ : Unit) => r = x_last t) (Bw (dC, dI) CLS (TY T) (fun _ : Unit => (wS ad T t)) (va_A (wS ad T t) sz)) (va_A (wS ad T t) sz)) 0 0 (va_A (wS ad T t) sz) := by
  refine Met.ofW (cc := cd_B_lastDisplacement) (maxL := 1) (ret := (some .long)) (by decide) rfl ?_
  intro p e s m args below meth c s₁ B hml hv
  obtain ⟨rfl, hsz, hP, hK, hD0, hN⟩ := hv
  have hx := B.exec
  have hb := B.bytes
  have hr := B.returns
  have hts : ∀ w ∈ UW, w.before _ s = true := fun w h => atoms_spec (ws := .code yn_B_lastDisplacement cd_B_lastDisplacement 1 (some .long) :: UW) B.pre w (List.mem_cons_of_mem _ h)
  have hown : s.vm.findClass "StabilitySums$Table" = some m.cls := findClass_of_methodNamed B.named
  have hlocks := B.notSynchronized
  subst hsz
  have hD := hD0.self (sz := s.heap.size)
  generalize hAe : va_A (wS ad T t) s.heap.size = A at hD ⊢
  have hA : ∀ q : Nat, s.heap.size ≤ q → A q := fun q h => by rw [← hAe]; exact Or.inr h
  have hS : va_S A s.heap s.heap [] := va_S.rf
  have hl := lv_entry ([.ref (ad 3)]) (n := 1) (Nat.le_of_ble_eq_true rfl)
  rw [lg_entry_eq]
  generalize (lg_sl ([.ref (ad 3)]) ++ List.replicate (1 - (lg_sl ([.ref (ad 3)])).length) Slot.unset).toArray = ls at hl ⊢
  have hl : lv_has ls 1 [(0, .ref (ad 3))] := hl
  generalize hQ : MQ below _ _ s 0 0 A = Q
  refine lv_aload_n hx hb de_B_lastDisplacement_0 rfl (lv_at hl 0 rfl) ?_
  refine va_get (D := (dC, dI)) (ci := 3) (v := .int (nI (t.2.2.2 2))) (C := "StabilitySums$Table") (T := TB_B) (N := 4) hx hb hts ui_B hown hK hP 3 rfl rfl 3 (by decide) (hts _ uw_134) (fun _ h9 => h9) rfl de_B_lastDisplacement_1 ?_
  refine lv_if_ne (tgt := 11) hx hb de_B_lastDisplacement_4 (by decide) (fun c_1 => ?_) (fun c_1 => ?_)
  · skip
    have c_1 : ¬ (t.2.2.2 2) = 0 := fun z => c_1 ((nz0 (by omega)).mpr z)
    refine lv_aload_n hx hb de_B_lastDisplacement_11 rfl (lv_at hl 0 rfl) ?_
    refine va_get (D := (dC, dI)) (ci := 3) (v := .ref (ad 21)) (C := "StabilitySums$Table") (T := TB_B) (N := 4) hx hb hts ui_B hown hK hP 3 rfl rfl 0 (by decide) (hts _ uw_129) (fun _ h9 => h9) rfl de_B_lastDisplacement_12 ?_
    refine lv_aload_n hx hb de_B_lastDisplacement_15 rfl (lv_at hl 0 rfl) ?_
    refine va_get (D := (dC, dI)) (ci := 3) (v := .int (nI (t.2.2.2 2))) (C := "StabilitySums$Table") (T := TB_B) (N := 4) hx hb hts ui_B hown hK hP 3 rfl rfl 3 (by decide) (hts _ uw_134) (fun _ h9 => h9) rfl de_B_lastDisplacement_16 ?_
    refine lv_iconst (v := 1) hx hb de_B_lastDisplacement_19 (by decide) ?_
    refine lv_isub hx hb de_B_lastDisplacement_20 ?_
    refine lv_topi (fun v_2 ev_2 => ?_)
    have ev_2 : v_2 = (nI ((t.2.2.2 2) - 1)) := ev_2.trans (pk_sub (a := (t.2.2.2 2)) (b := 1) (by omega))
    subst ev_2
    refine rw_lald (f := t.1 12) (j := ((t.2.2.2 2) - 1)) hx hb hK hP 21 0 rfl rfl (by omega) (by decide) de_B_lastDisplacement_21 ?_
    subst hQ
    have hpost : (t.1 12 ((t.2.2.2 2) - 1)) = x_last t := by
      unfold x_last; first | rw [if_pos c_1] | rw [if_neg c_1]
    exact W.lret (v := (t.1 12 ((t.2.2.2 2) - 1))) hx hb hr (fun t9 ht hW => ⟨⟨(t.1 12 ((t.2.2.2 2) - 1)), (), rfl, hpost, by rw [ht]; exact hP, va_K.moved hW.alike hK, hD⟩, hS.F ht⟩) hS.2.2 de_B_lastDisplacement_22
  · skip
    have c_1 : (t.2.2.2 2) = 0 := (nz0 (by omega)).mp c_1
    refine lv_lconst (v := 0) hx hb de_B_lastDisplacement_7 (by decide) ?_
    refine lv_goto (tgt := 22) hx hb de_B_lastDisplacement_8 (by decide) ?_
    subst hQ
    have hpost : 0 = x_last t := by
      unfold x_last; first | rw [if_pos c_1] | rw [if_neg c_1]
    exact W.lret (v := 0) hx hb hr (fun t9 ht hW => ⟨⟨0, (), rfl, hpost, by rw [ht]; exact hP, va_K.moved hW.alike hK, hD⟩, hS.F ht⟩) hS.2.2 de_B_lastDisplacement_22
set_option maxHeartbeats 4000000 in
set_option maxRecDepth 100000 in
theorem mt_F_put (l : Launch) (dC : Nat → ClassId) (dI : Nat → Nat → Nat) (ad : Nat → Nat) (T : Nat → ClassId) (t : St) (a0 : Int64) (a1 : Int64)  (sz : Nat) : Met l yn_F_put (.code yn_F_put cd_F_put 5 none :: UW) ({ frames := 0, cells := 0, slots := 0, locals := 0 } : Room) (va_Pc [.ref (ad 8), .long a0, .long a1] (Pw (dC, dI) CLS (TY T) (wS ad T t) sz)) (va_Qv (fun _ : Unit => True) (Bw (dC, dI) CLS (TY T) (fun _ : Unit => (wS ad T (x_put a0 a1 t))) (va_A (wS ad T t) sz)) (va_A (wS ad T t) sz)) 0 0 (va_A (wS ad T t) sz) := by
  refine Met.ofW (cc := cd_F_put) (maxL := 5) (ret := none) (by decide) rfl ?_
  intro p e s m args below meth c s₁ B hml hv
  obtain ⟨rfl, hsz, hP, hK, hD0, hN⟩ := hv
  have hx := B.exec
  have hb := B.bytes
  have hr := B.returns
  have hts : ∀ w ∈ UW, w.before _ s = true := fun w h => atoms_spec (ws := .code yn_F_put cd_F_put 5 none :: UW) B.pre w (List.mem_cons_of_mem _ h)
  have hown : s.vm.findClass "StabilitySums$Fraction" = some m.cls := findClass_of_methodNamed B.named
  have hlocks := B.notSynchronized
  subst hsz
  have hD := hD0.self (sz := s.heap.size)
  generalize hAe : va_A (wS ad T t) s.heap.size = A at hD ⊢
  have hA : ∀ q : Nat, s.heap.size ≤ q → A q := fun q h => by rw [← hAe]; exact Or.inr h
  have hS : va_S A s.heap s.heap [] := va_S.rf
  have hl := lv_entry ([.ref (ad 8), .long a0, .long a1]) (n := 5) (Nat.le_of_ble_eq_true rfl)
  rw [lg_entry_eq]
  generalize (lg_sl ([.ref (ad 8), .long a0, .long a1]) ++ List.replicate (5 - (lg_sl ([.ref (ad 8), .long a0, .long a1])).length) Slot.unset).toArray = ls at hl ⊢
  have hl : lv_has ls 5 [(0, .ref (ad 8)), (1, .long a0), (3, .long a1)] := hl
  generalize hQ : MQ below _ _ s 0 0 A = Q
  refine lv_lload_n hx hb de_F_put_0 rfl (lv_at hl 2 rfl) ?_
  refine lv_lconst (v := 0) hx hb de_F_put_1 (by decide) ?_
  refine rw_ne (tgt := 17) hx hb de_F_put_2 de_F_put_3 (by decide) (fun c_1 => ?_) (fun c_1 => ?_)
  · skip
    refine lv_aload_n hx hb de_F_put_17 rfl (lv_at hl 0 rfl) ?_
    refine lv_lload_n hx hb de_F_put_18 rfl (lv_at hl 2 rfl) ?_
    refine lv_lconst (v := 0) hx hb de_F_put_19 (by decide) ?_
    refine rw_ge (tgt := 29) hx hb de_F_put_20 de_F_put_21 (by decide) (fun c_2 => ?_) (fun c_2 => ?_)
    · skip
      refine lv_lload_n hx hb de_F_put_29 rfl (lv_at hl 1 rfl) ?_
      refine va_put (D := (dC, dI)) (ci := 8) (v := .long a0) (ty := .long) (C := "StabilitySums$Fraction") (T := TB_F) (N := 2) hx hb hts ui_F tt_F tk_F nm_F hown hK hP hD hS 8 rfl rfl 0 (by decide) (hts _ uw_246) (fun _ h9 => h9) rfl (by decide +kernel) rfl rfl (Nat.le_of_ble_eq_true rfl) de_F_put_30 (fun H locs hP hD hS => ?_)
      have hP : va_P (dC, dI) CLS (wS ad T (sF t 7 a0)) H := hP
      have hD : va_D A (wS ad T (sF t 7 a0)) := hD
      refine lv_aload_n hx hb de_F_put_33 rfl (lv_at hl 0 rfl) ?_
      refine lv_lload_n hx hb de_F_put_34 rfl (lv_at hl 2 rfl) ?_
      refine lv_lconst (v := 0) hx hb de_F_put_35 (by decide) ?_
      refine rw_ge (tgt := 45) hx hb de_F_put_36 de_F_put_37 (by decide) (fun c_3 => ?_) (fun c_3 => ?_)
      · skip
        refine lv_lload_n hx hb de_F_put_45 rfl (lv_at hl 2 rfl) ?_
        refine va_put (D := (dC, dI)) (ci := 8) (v := .long a1) (ty := .long) (C := "StabilitySums$Fraction") (T := TB_F) (N := 2) hx hb hts ui_F tt_F tk_F nm_F hown hK hP hD hS 8 rfl rfl 1 (by decide) (hts _ uw_248) (fun _ h9 => h9) rfl (by decide +kernel) rfl rfl (Nat.le_of_ble_eq_true rfl) de_F_put_46 (fun H locs hP hD hS => ?_)
        have hP : va_P (dC, dI) CLS (wS ad T (sF (sF t 7 a0) 8 a1)) H := hP
        have hD : va_D A (wS ad T (sF (sF t 7 a0) 8 a1)) := hD
        have hfin : (sF (sF t 7 a0) 8 a1) = x_put a0 a1 t := by
          first | contradiction | (simp only [x_put, c_1, c_2, c_3, ↓reduceIte]; done) | (subst_vars; simp only [x_put, c_1, c_2, c_3, ↓reduceIte])
        rw [hfin] at hP hD
        subst hQ
        exact W.vret hx hb hr (fun t9 ht hW => ⟨⟨(), rfl, trivial, by rw [ht]; exact hP, va_K.moved hW.alike hK, hD⟩, hS.F ht⟩) hS.2.2 de_F_put_49
      · skip
        refine lv_lload_n hx hb de_F_put_40 rfl (lv_at hl 2 rfl) ?_
        refine lv_lneg hx hb de_F_put_41 ?_
        refine lv_topl (fun v_4 ev_4 => ?_)
        have ev_4 : v_4 = -a1 := ev_4
        refine lv_goto (tgt := 46) hx hb de_F_put_42 (by decide) ?_
        refine va_put (D := (dC, dI)) (ci := 8) (v := .long v_4) (ty := .long) (C := "StabilitySums$Fraction") (T := TB_F) (N := 2) hx hb hts ui_F tt_F tk_F nm_F hown hK hP hD hS 8 rfl rfl 1 (by decide) (hts _ uw_248) (fun _ h9 => h9) rfl (by decide +kernel) rfl rfl (Nat.le_of_ble_eq_true rfl) de_F_put_46 (fun H locs hP hD hS => ?_)
        have hP : va_P (dC, dI) CLS (wS ad T (sF (sF t 7 a0) 8 v_4)) H := hP
        have hD : va_D A (wS ad T (sF (sF t 7 a0) 8 v_4)) := hD
        have hfin : (sF (sF t 7 a0) 8 v_4) = x_put a0 a1 t := by
          first | contradiction | (simp only [x_put, c_1, c_2, c_3, ↓reduceIte]; done) | (subst_vars; simp only [x_put, c_1, c_2, c_3, ↓reduceIte])
        rw [hfin] at hP hD
        subst hQ
        exact W.vret hx hb hr (fun t9 ht hW => ⟨⟨(), rfl, trivial, by rw [ht]; exact hP, va_K.moved hW.alike hK, hD⟩, hS.F ht⟩) hS.2.2 de_F_put_49
    · skip
      refine lv_lload_n hx hb de_F_put_24 rfl (lv_at hl 1 rfl) ?_
      refine lv_lneg hx hb de_F_put_25 ?_
      refine lv_topl (fun v_5 ev_5 => ?_)
      have ev_5 : v_5 = -a0 := ev_5
      refine lv_goto (tgt := 30) hx hb de_F_put_26 (by decide) ?_
      refine va_put (D := (dC, dI)) (ci := 8) (v := .long v_5) (ty := .long) (C := "StabilitySums$Fraction") (T := TB_F) (N := 2) hx hb hts ui_F tt_F tk_F nm_F hown hK hP hD hS 8 rfl rfl 0 (by decide) (hts _ uw_246) (fun _ h9 => h9) rfl (by decide +kernel) rfl rfl (Nat.le_of_ble_eq_true rfl) de_F_put_30 (fun H locs hP hD hS => ?_)
      have hP : va_P (dC, dI) CLS (wS ad T (sF t 7 v_5)) H := hP
      have hD : va_D A (wS ad T (sF t 7 v_5)) := hD
      refine lv_aload_n hx hb de_F_put_33 rfl (lv_at hl 0 rfl) ?_
      refine lv_lload_n hx hb de_F_put_34 rfl (lv_at hl 2 rfl) ?_
      refine lv_lconst (v := 0) hx hb de_F_put_35 (by decide) ?_
      refine rw_ge (tgt := 45) hx hb de_F_put_36 de_F_put_37 (by decide) (fun c_6 => ?_) (fun c_6 => ?_)
      · skip
        refine lv_lload_n hx hb de_F_put_45 rfl (lv_at hl 2 rfl) ?_
        refine va_put (D := (dC, dI)) (ci := 8) (v := .long a1) (ty := .long) (C := "StabilitySums$Fraction") (T := TB_F) (N := 2) hx hb hts ui_F tt_F tk_F nm_F hown hK hP hD hS 8 rfl rfl 1 (by decide) (hts _ uw_248) (fun _ h9 => h9) rfl (by decide +kernel) rfl rfl (Nat.le_of_ble_eq_true rfl) de_F_put_46 (fun H locs hP hD hS => ?_)
        have hP : va_P (dC, dI) CLS (wS ad T (sF (sF t 7 v_5) 8 a1)) H := hP
        have hD : va_D A (wS ad T (sF (sF t 7 v_5) 8 a1)) := hD
        have hfin : (sF (sF t 7 v_5) 8 a1) = x_put a0 a1 t := by
          first | contradiction | (simp only [x_put, c_1, c_2, c_6, ↓reduceIte]; done) | (subst_vars; simp only [x_put, c_1, c_2, c_6, ↓reduceIte])
        rw [hfin] at hP hD
        subst hQ
        exact W.vret hx hb hr (fun t9 ht hW => ⟨⟨(), rfl, trivial, by rw [ht]; exact hP, va_K.moved hW.alike hK, hD⟩, hS.F ht⟩) hS.2.2 de_F_put_49
      · skip
        refine lv_lload_n hx hb de_F_put_40 rfl (lv_at hl 2 rfl) ?_
        refine lv_lneg hx hb de_F_put_41 ?_
        refine lv_topl (fun v_7 ev_7 => ?_)
        have ev_7 : v_7 = -a1 := ev_7
        refine lv_goto (tgt := 46) hx hb de_F_put_42 (by decide) ?_
        refine va_put (D := (dC, dI)) (ci := 8) (v := .long v_7) (ty := .long) (C := "StabilitySums$Fraction") (T := TB_F) (N := 2) hx hb hts ui_F tt_F tk_F nm_F hown hK hP hD hS 8 rfl rfl 1 (by decide) (hts _ uw_248) (fun _ h9 => h9) rfl (by decide +kernel) rfl rfl (Nat.le_of_ble_eq_true rfl) de_F_put_46 (fun H locs hP hD hS => ?_)
        have hP : va_P (dC, dI) CLS (wS ad T (sF (sF t 7 v_5) 8 v_7)) H := hP
        have hD : va_D A (wS ad T (sF (sF t 7 v_5) 8 v_7)) := hD
        have hfin : (sF (sF t 7 v_5) 8 v_7) = x_put a0 a1 t := by
          first | contradiction | (simp only [x_put, c_1, c_2, c_6, ↓reduceIte]; done) | (subst_vars; simp only [x_put, c_1, c_2, c_6, ↓reduceIte])
        rw [hfin] at hP hD
        subst hQ
        exact W.vret hx hb hr (fun t9 ht hW => ⟨⟨(), rfl, trivial, by rw [ht]; exact hP, va_K.moved hW.alike hK, hD⟩, hS.F ht⟩) hS.2.2 de_F_put_49
  · skip
    refine lv_aload_n hx hb de_F_put_6 rfl (lv_at hl 0 rfl) ?_
    refine lv_lconst (v := 0) hx hb de_F_put_7 (by decide) ?_
    refine va_put (D := (dC, dI)) (ci := 8) (v := .long 0) (ty := .long) (C := "StabilitySums$Fraction") (T := TB_F) (N := 2) hx hb hts ui_F tt_F tk_F nm_F hown hK hP hD hS 8 rfl rfl 0 (by decide) (hts _ uw_246) (fun _ h9 => h9) rfl (by decide +kernel) rfl rfl (Nat.le_of_ble_eq_true rfl) de_F_put_8 (fun H locs hP hD hS => ?_)
    have hP : va_P (dC, dI) CLS (wS ad T (sF t 7 0)) H := hP
    have hD : va_D A (wS ad T (sF t 7 0)) := hD
    refine lv_aload_n hx hb de_F_put_11 rfl (lv_at hl 0 rfl) ?_
    refine lv_lconst (v := 1) hx hb de_F_put_12 (by decide) ?_
    refine va_put (D := (dC, dI)) (ci := 8) (v := .long 1) (ty := .long) (C := "StabilitySums$Fraction") (T := TB_F) (N := 2) hx hb hts ui_F tt_F tk_F nm_F hown hK hP hD hS 8 rfl rfl 1 (by decide) (hts _ uw_248) (fun _ h9 => h9) rfl (by decide +kernel) rfl rfl (Nat.le_of_ble_eq_true rfl) de_F_put_13 (fun H locs hP hD hS => ?_)
    have hP : va_P (dC, dI) CLS (wS ad T (sF (sF t 7 0) 8 1)) H := hP
    have hD : va_D A (wS ad T (sF (sF t 7 0) 8 1)) := hD
    have hfin : (sF (sF t 7 0) 8 1) = x_put a0 a1 t := by
      first | contradiction | (simp only [x_put, c_1, ↓reduceIte]; done) | (subst_vars; simp only [x_put, c_1, ↓reduceIte])
    rw [hfin] at hP hD
    subst hQ
    exact W.vret hx hb hr (fun t9 ht hW => ⟨⟨(), rfl, trivial, by rw [ht]; exact hP, va_K.moved hW.alike hK, hD⟩, hS.F ht⟩) hS.2.2 de_F_put_16
set_option maxHeartbeats 4000000 in
set_option maxRecDepth 100000 in
theorem mt_F_floor (l : Launch) (dC : Nat → ClassId) (dI : Nat → Nat → Nat) (ad : Nat → Nat) (T : Nat → ClassId) (t : St)   (sz : Nat) : Met l yn_F_floor (.code yn_F_floor cd_F_floor 1 (some .long) :: UW) ({ frames := 2, cells := 0, slots := 0, locals := 48 } : Room) (va_Pc [.ref (ad 8)] (Pw (dC, dI) CLS (TY T) (wS ad T t) sz)) (va_Ql (fun (r : Int64) (_ : Unit) => r = x_flr t) (Bw (dC, dI) CLS (TY T) (fun _ : Unit => (wS ad T t)) (va_A (wS ad T t) sz)) (va_A (wS ad T t) sz)) 0 0 (va_A (wS ad T t) sz) := by
  refine Met.ofW (cc := cd_F_floor) (maxL := 1) (ret := (some .long)) (by decide) rfl ?_
  intro p e s m args below meth c s₁ B hml hv
  obtain ⟨rfl, hsz, hP, hK, hD0, hN⟩ := hv
  have hx := B.exec
  have hb := B.bytes
  have hr := B.returns
  have hts : ∀ w ∈ UW, w.before _ s = true := fun w h => atoms_spec (ws := .code yn_F_floor cd_F_floor 1 (some .long) :: UW) B.pre w (List.mem_cons_of_mem _ h)
  have hown : s.vm.findClass "StabilitySums$Fraction" = some m.cls := findClass_of_methodNamed B.named
  have hlocks := B.notSynchronized
  subst hsz
  have hD := hD0.self (sz := s.heap.size)
  generalize hAe : va_A (wS ad T t) s.heap.size = A at hD ⊢
  have hA : ∀ q : Nat, s.heap.size ≤ q → A q := fun q h => by rw [← hAe]; exact Or.inr h
  have hS : va_S A s.heap s.heap [] := va_S.rf
  have hl := lv_entry ([.ref (ad 8)]) (n := 1) (Nat.le_of_ble_eq_true rfl)
  rw [lg_entry_eq]
  generalize (lg_sl ([.ref (ad 8)]) ++ List.replicate (1 - (lg_sl ([.ref (ad 8)])).length) Slot.unset).toArray = ls at hl ⊢
  have hl : lv_has ls 1 [(0, .ref (ad 8))] := hl
  generalize hQ : MQ below _ _ s 0 0 A = Q
  refine lv_aload_n hx hb de_F_floor_0 rfl (lv_at hl 0 rfl) ?_
  refine va_get (D := (dC, dI)) (ci := 8) (v := .long (t.2.2.1 7)) (C := "StabilitySums$Fraction") (T := TB_F) (N := 2) hx hb hts ui_F hown hK hP 8 rfl rfl 0 (by decide) (hts _ uw_246) (fun _ h9 => h9) rfl de_F_floor_1 ?_
  refine lv_aload_n hx hb de_F_floor_4 rfl (lv_at hl 0 rfl) ?_
  refine va_get (D := (dC, dI)) (ci := 8) (v := .long (t.2.2.1 8)) (C := "StabilitySums$Fraction") (T := TB_F) (N := 2) hx hb hts ui_F hown hK hP 8 rfl rfl 1 (by decide) (hts _ uw_248) (fun _ h9 => h9) rfl de_F_floor_5 ?_
  refine cl_Tl (As := [.long (t.2.2.1 7), .long (t.2.2.1 8)]) (rest := []) ⟨hx, hb, hml, hown, hts⟩ (mt_S_divideDown l dC dI ad T t (t.2.2.1 7) (t.2.2.1 8)) ⟨va_cnB 2 hts (uw_C uw_355) rfl rfl rfl (hN _ (List.mem_of_getElem? (i := 8) rfl)) (hts _ uw_27) (by decide +kernel) ⟨Nat.le_of_ble_eq_true rfl, Nat.le_of_ble_eq_true rfl⟩, hts _ uw_354, trivial⟩ rfl hl.1 rfl (by decide) de_F_floor_8 ⟨Nat.zero_le _, Nat.zero_le _⟩ hK hN hP hD hS hA (fun r_1 _ H locs hw_1 hP hD hS => ?_)
  have hw_1 : r_1 = x_dd (t.2.2.1 7) (t.2.2.1 8) := hw_1
  subst hQ
  have hpost : r_1 = x_flr t := by
    exact hw_1
  exact W.lret (v := r_1) hx hb hr (fun t9 ht hW => ⟨⟨r_1, (), rfl, hpost, by rw [ht]; exact hP, va_K.moved hW.alike hK, hD⟩, hS.F ht⟩) hS.2.2 de_F_floor_11
set_option maxHeartbeats 4000000 in
set_option maxRecDepth 100000 in
theorem mt_F_ceiling (l : Launch) (dC : Nat → ClassId) (dI : Nat → Nat → Nat) (ad : Nat → Nat) (T : Nat → ClassId) (t : St)   (sz : Nat) : Met l yn_F_ceiling (.code yn_F_ceiling cd_F_ceiling 1 (some .long) :: UW) ({ frames := 2, cells := 0, slots := 0, locals := 48 } : Room) (va_Pc [.ref (ad 8)] (Pw (dC, dI) CLS (TY T) (wS ad T t) sz)) (va_Ql (fun (r : Int64) (_ : Unit) => r = x_cei t) (Bw (dC, dI) CLS (TY T) (fun _ : Unit => (wS ad T t)) (va_A (wS ad T t) sz)) (va_A (wS ad T t) sz)) 0 0 (va_A (wS ad T t) sz) := by
  refine Met.ofW (cc := cd_F_ceiling) (maxL := 1) (ret := (some .long)) (by decide) rfl ?_
  intro p e s m args below meth c s₁ B hml hv
  obtain ⟨rfl, hsz, hP, hK, hD0, hN⟩ := hv
  have hx := B.exec
  have hb := B.bytes
  have hr := B.returns
  have hts : ∀ w ∈ UW, w.before _ s = true := fun w h => atoms_spec (ws := .code yn_F_ceiling cd_F_ceiling 1 (some .long) :: UW) B.pre w (List.mem_cons_of_mem _ h)
  have hown : s.vm.findClass "StabilitySums$Fraction" = some m.cls := findClass_of_methodNamed B.named
  have hlocks := B.notSynchronized
  subst hsz
  have hD := hD0.self (sz := s.heap.size)
  generalize hAe : va_A (wS ad T t) s.heap.size = A at hD ⊢
  have hA : ∀ q : Nat, s.heap.size ≤ q → A q := fun q h => by rw [← hAe]; exact Or.inr h
  have hS : va_S A s.heap s.heap [] := va_S.rf
  have hl := lv_entry ([.ref (ad 8)]) (n := 1) (Nat.le_of_ble_eq_true rfl)
  rw [lg_entry_eq]
  generalize (lg_sl ([.ref (ad 8)]) ++ List.replicate (1 - (lg_sl ([.ref (ad 8)])).length) Slot.unset).toArray = ls at hl ⊢
  have hl : lv_has ls 1 [(0, .ref (ad 8))] := hl
  generalize hQ : MQ below _ _ s 0 0 A = Q
  refine lv_aload_n hx hb de_F_ceiling_0 rfl (lv_at hl 0 rfl) ?_
  refine va_get (D := (dC, dI)) (ci := 8) (v := .long (t.2.2.1 7)) (C := "StabilitySums$Fraction") (T := TB_F) (N := 2) hx hb hts ui_F hown hK hP 8 rfl rfl 0 (by decide) (hts _ uw_246) (fun _ h9 => h9) rfl de_F_ceiling_1 ?_
  refine lv_lneg hx hb de_F_ceiling_4 ?_
  refine lv_topl (fun v_1 ev_1 => ?_)
  have ev_1 : v_1 = -(t.2.2.1 7) := ev_1
  refine lv_aload_n hx hb de_F_ceiling_5 rfl (lv_at hl 0 rfl) ?_
  refine va_get (D := (dC, dI)) (ci := 8) (v := .long (t.2.2.1 8)) (C := "StabilitySums$Fraction") (T := TB_F) (N := 2) hx hb hts ui_F hown hK hP 8 rfl rfl 1 (by decide) (hts _ uw_248) (fun _ h9 => h9) rfl de_F_ceiling_6 ?_
  refine cl_Tl (As := [.long v_1, .long (t.2.2.1 8)]) (rest := []) ⟨hx, hb, hml, hown, hts⟩ (mt_S_divideDown l dC dI ad T t v_1 (t.2.2.1 8)) ⟨va_cnB 2 hts (uw_C uw_355) rfl rfl rfl (hN _ (List.mem_of_getElem? (i := 8) rfl)) (hts _ uw_27) (by decide +kernel) ⟨Nat.le_of_ble_eq_true rfl, Nat.le_of_ble_eq_true rfl⟩, hts _ uw_354, trivial⟩ rfl hl.1 rfl (by decide) de_F_ceiling_9 ⟨Nat.zero_le _, Nat.zero_le _⟩ hK hN hP hD hS hA (fun r_2 _ H locs hw_2 hP hD hS => ?_)
  have hw_2 : r_2 = x_dd v_1 (t.2.2.1 8) := hw_2
  refine lv_lneg hx hb de_F_ceiling_12 ?_
  refine lv_topl (fun v_3 ev_3 => ?_)
  have ev_3 : v_3 = -r_2 := ev_3
  subst hQ
  have hpost : v_3 = x_cei t := by
    subst_vars; rfl
  exact W.lret (v := v_3) hx hb hr (fun t9 ht hW => ⟨⟨v_3, (), rfl, hpost, by rw [ht]; exact hP, va_K.moved hW.alike hK, hD⟩, hS.F ht⟩) hS.2.2 de_F_ceiling_13
set_option maxHeartbeats 4000000 in
set_option maxRecDepth 100000 in
theorem mt_F_commonDivisor (l : Launch) (dC : Nat → ClassId) (dI : Nat → Nat → Nat) (ad : Nat → Nat) (T : Nat → ClassId) (t : St) (a0 : Int64) (a1 : Int64)  (sz : Nat) : Met l yn_F_commonDivisor (.code yn_F_commonDivisor cd_F_commonDivisor 11 (some .long) :: UW) ({ frames := 0, cells := 0, slots := 0, locals := 0 } : Room) (va_Pc [.long a0, .long a1] (Pw (dC, dI) CLS (TY T) (wS ad T t) sz)) (va_Ql (fun (r : Int64) (_ : Unit) => r = x_gcd 1000 a0 a1) (Bw (dC, dI) CLS (TY T) (fun _ : Unit => (wS ad T t)) (va_A (wS ad T t) sz)) (va_A (wS ad T t) sz)) 0 0 (va_A (wS ad T t) sz) := by
  refine Met.ofW (cc := cd_F_commonDivisor) (maxL := 11) (ret := (some .long)) (by decide) rfl ?_
  intro p e s m args below meth c s₁ B hml hv
  obtain ⟨rfl, hsz, hP, hK, hD0, hN⟩ := hv
  have hx := B.exec
  have hb := B.bytes
  have hr := B.returns
  have hts : ∀ w ∈ UW, w.before _ s = true := fun w h => atoms_spec (ws := .code yn_F_commonDivisor cd_F_commonDivisor 11 (some .long) :: UW) B.pre w (List.mem_cons_of_mem _ h)
  have hown : s.vm.findClass "StabilitySums$Fraction" = some m.cls := findClass_of_methodNamed B.named
  have hlocks := B.notSynchronized
  subst hsz
  have hD := hD0.self (sz := s.heap.size)
  generalize hAe : va_A (wS ad T t) s.heap.size = A at hD ⊢
  have hA : ∀ q : Nat, s.heap.size ≤ q → A q := fun q h => by rw [← hAe]; exact Or.inr h
  have hS : va_S A s.heap s.heap [] := va_S.rf
  have hl := lv_entry ([.long a0, .long a1]) (n := 11) (Nat.le_of_ble_eq_true rfl)
  rw [lg_entry_eq]
  generalize (lg_sl ([.long a0, .long a1]) ++ List.replicate (11 - (lg_sl ([.long a0, .long a1])).length) Slot.unset).toArray = ls at hl ⊢
  have hl : lv_has ls 11 [(0, .long a0), (2, .long a1)] := hl
  generalize hQ : MQ below _ _ s 0 0 A = Q
  refine lv_lload_n hx hb de_F_commonDivisor_0 rfl (lv_at hl 0 rfl) ?_
  refine lv_lstore (lv' := [(4, .long a0), (0, .long a0), (2, .long a1)]) hx hb de_F_commonDivisor_1 hl (by decide) rfl (fun ls hl => ?_)
  refine lv_lload_n hx hb de_F_commonDivisor_3 rfl (lv_at hl 2 rfl) ?_
  refine lv_lstore (lv' := [(6, .long a1), (4, .long a0), (0, .long a0), (2, .long a1)]) hx hb de_F_commonDivisor_4 hl (by decide) rfl (fun ls hl => ?_)
  refine lv_iconst (v := 0) hx hb de_F_commonDivisor_6 (by decide) ?_
  refine lv_istore (lv' := [(8, .int 0), (6, .long a1), (4, .long a0), (0, .long a0), (2, .long a1)]) hx hb de_F_commonDivisor_7 hl (by decide) rfl (fun ls hl => ?_)
  have loop_9 : ∀ (n : Nat) (i : Nat) (a b : Int64), (i + n = 1000) → (x_gcd n a b = x_gcd 1000 a0 a1) → ∀ (H : Heap) (locs : List Loc) (ls : Array Slot), va_P (dC, dI) CLS (wS ad T t) H → va_D A (wS ad T t) → va_S A s.heap H locs → lv_has ls 11 [(4, .long a), (6, .long b), (8, .int (nI i))] → W p l e (headSpec (.code yn_F_commonDivisor cd_F_commonDivisor 11 (some .long) :: UW) ({ frames := 0, cells := 0, slots := 0, locals := 0 } : Room)).room s m ([.long a0, .long a1] : List Value).toArray below meth c H locs 0 0 Q (F0 m 9 ls []) := by
    intro n
    induction n with
    | zero =>
      intro i a b hi hq H locs ls hP hD hS hl
      refine lv_iload hx hb de_F_commonDivisor_9 (lv_at hl 2 rfl) ?_
      refine lv_sipush (v := 1000) hx hb de_F_commonDivisor_11 (by decide) ?_
      refine lv_icmp_ge (tgt := 45) hx hb de_F_commonDivisor_14 (by decide) (fun c_1 => ?_) (fun c_1 => ?_)
      · skip
        have c_1 : 1000 ≤ i := (nI_leI (a := 1000) (b := i) (by omega) (by omega)).mp c_1
        refine lv_lload hx hb de_F_commonDivisor_45 (lv_at hl 0 rfl) ?_
        subst hQ
        have hpost : a = x_gcd 1000 a0 a1 := by
          rw [← hq]; first | rfl | (rw [x_gcd, if_pos c_1])
        exact W.lret (v := a) hx hb hr (fun t9 ht hW => ⟨⟨a, (), rfl, hpost, by rw [ht]; exact hP, va_K.moved hW.alike hK, hD⟩, hS.F ht⟩) hS.2.2 de_F_commonDivisor_47
      · skip
        have c_1 : ¬ (1000 ≤ i) := fun z => c_1 ((nI_leI (a := 1000) (b := i) (by omega) (by omega)).mpr z)
        exfalso; omega
    | succ n ih =>
      intro i a b hi hq H locs ls hP hD hS hl
      refine lv_iload hx hb de_F_commonDivisor_9 (lv_at hl 2 rfl) ?_
      refine lv_sipush (v := 1000) hx hb de_F_commonDivisor_11 (by decide) ?_
      refine lv_icmp_ge (tgt := 45) hx hb de_F_commonDivisor_14 (by decide) (fun c_2 => ?_) (fun c_2 => ?_)
      · skip
        have c_2 : 1000 ≤ i := (nI_leI (a := 1000) (b := i) (by omega) (by omega)).mp c_2
        exfalso; omega
      · skip
        have c_2 : ¬ (1000 ≤ i) := fun z => c_2 ((nI_leI (a := 1000) (b := i) (by omega) (by omega)).mpr z)
        refine lv_lload hx hb de_F_commonDivisor_17 (lv_at hl 1 rfl) ?_
        refine lv_lconst (v := 0) hx hb de_F_commonDivisor_19 (by decide) ?_
        refine rw_eq (tgt := 45) hx hb de_F_commonDivisor_20 de_F_commonDivisor_21 (by decide) (fun c_3 => ?_) (fun c_3 => ?_)
        · skip
          refine lv_lload hx hb de_F_commonDivisor_45 (lv_at hl 0 rfl) ?_
          subst hQ
          have hpost : a = x_gcd 1000 a0 a1 := by
            rw [← hq]; first | rfl | (rw [x_gcd, if_pos c_3])
          exact W.lret (v := a) hx hb hr (fun t9 ht hW => ⟨⟨a, (), rfl, hpost, by rw [ht]; exact hP, va_K.moved hW.alike hK, hD⟩, hS.F ht⟩) hS.2.2 de_F_commonDivisor_47
        · skip
          refine lv_lload hx hb de_F_commonDivisor_24 (lv_at hl 0 rfl) ?_
          refine lv_lload hx hb de_F_commonDivisor_26 (lv_at hl 1 rfl) ?_
          refine lv_lrem hx hb de_F_commonDivisor_28 c_3 ?_
          refine lv_topl (fun v_4 ev_4 => ?_)
          have ev_4 : v_4 = a - a / b * b := ev_4
          refine lv_lstore (lv' := [(9, .long v_4), (4, .long a), (6, .long b), (8, .int (nI i))]) hx hb de_F_commonDivisor_29 hl (by decide) rfl (fun ls hl => ?_)
          refine lv_lload hx hb de_F_commonDivisor_31 (lv_at hl 2 rfl) ?_
          refine lv_lstore (lv' := [(4, .long b), (9, .long v_4), (6, .long b), (8, .int (nI i))]) hx hb de_F_commonDivisor_33 hl (by decide) rfl (fun ls hl => ?_)
          refine lv_lload hx hb de_F_commonDivisor_35 (lv_at hl 1 rfl) ?_
          refine lv_lstore (lv' := [(6, .long v_4), (4, .long b), (9, .long v_4), (8, .int (nI i))]) hx hb de_F_commonDivisor_37 hl (by decide) rfl (fun ls hl => ?_)
          refine lv_iinc (v := (nI (i + 1))) (lv' := [(8, .int (nI (i + 1))), (6, .long v_4), (4, .long b), (9, .long v_4)]) hx hb de_F_commonDivisor_39 hl (k := 3) rfl (nI_1 i) (by decide) rfl (fun ls hl => ?_)
          refine lv_goto (tgt := 9) hx hb de_F_commonDivisor_42 (by decide) ?_
          exact ih (i + 1) b v_4 (by omega) (by rw [← hq, x_gcd, if_neg c_3]; subst_vars; rfl) H locs ls hP hD hS (lv_sub hl [2, 1, 0] rfl)
  exact loop_9 1000 0 a0 a1 (by omega) rfl _ _ ls hP hD hS (lv_sub hl [2, 1, 0] rfl)
set_option maxHeartbeats 4000000 in
set_option maxRecDepth 100000 in
theorem mt_F_reduce (l : Launch) (dC : Nat → ClassId) (dI : Nat → Nat → Nat) (ad : Nat → Nat) (T : Nat → ClassId) (t : St)   (sz : Nat) : Met l yn_F_reduce (.code yn_F_reduce cd_F_reduce 3 none :: UW) ({ frames := 1, cells := 0, slots := 0, locals := 30 } : Room) (va_Pc [.ref (ad 8)] (Pw (dC, dI) CLS (TY T) (wS ad T t) sz)) (va_Qv (fun _ : Unit => True) (Bw (dC, dI) CLS (TY T) (fun _ : Unit => (wS ad T (x_red t))) (va_A (wS ad T t) sz)) (va_A (wS ad T t) sz)) 0 0 (va_A (wS ad T t) sz) := by
  refine Met.ofW (cc := cd_F_reduce) (maxL := 3) (ret := none) (by decide) rfl ?_
  intro p e s m args below meth c s₁ B hml hv
  obtain ⟨rfl, hsz, hP, hK, hD0, hN⟩ := hv
  have hx := B.exec
  have hb := B.bytes
  have hr := B.returns
  have hts : ∀ w ∈ UW, w.before _ s = true := fun w h => atoms_spec (ws := .code yn_F_reduce cd_F_reduce 3 none :: UW) B.pre w (List.mem_cons_of_mem _ h)
  have hown : s.vm.findClass "StabilitySums$Fraction" = some m.cls := findClass_of_methodNamed B.named
  have hlocks := B.notSynchronized
  subst hsz
  have hD := hD0.self (sz := s.heap.size)
  generalize hAe : va_A (wS ad T t) s.heap.size = A at hD ⊢
  have hA : ∀ q : Nat, s.heap.size ≤ q → A q := fun q h => by rw [← hAe]; exact Or.inr h
  have hS : va_S A s.heap s.heap [] := va_S.rf
  have hl := lv_entry ([.ref (ad 8)]) (n := 3) (Nat.le_of_ble_eq_true rfl)
  rw [lg_entry_eq]
  generalize (lg_sl ([.ref (ad 8)]) ++ List.replicate (3 - (lg_sl ([.ref (ad 8)])).length) Slot.unset).toArray = ls at hl ⊢
  have hl : lv_has ls 3 [(0, .ref (ad 8))] := hl
  generalize hQ : MQ below _ _ s 0 0 A = Q
  refine lv_aload_n hx hb de_F_reduce_0 rfl (lv_at hl 0 rfl) ?_
  refine va_get (D := (dC, dI)) (ci := 8) (v := .long (t.2.2.1 7)) (C := "StabilitySums$Fraction") (T := TB_F) (N := 2) hx hb hts ui_F hown hK hP 8 rfl rfl 0 (by decide) (hts _ uw_246) (fun _ h9 => h9) rfl de_F_reduce_1 ?_
  refine va_mabs_long hx hb (hml.trans hl.1.symm) hown (hts _ uw_625) (hts _ uw_413) (hts _ uw_43) (hts _ uw_414) (Nat.le_of_ble_eq_true rfl) (Nat.le_of_ble_eq_true rfl) (Nat.zero_le _) (Nat.zero_le _) de_F_reduce_4 ?_
  refine lv_topl (fun v_1 ev_1 => ?_)
  have ev_1 : v_1 = (if 0 < (t.2.2.1 7) then (t.2.2.1 7) else -(t.2.2.1 7)) := ev_1
  refine lv_aload_n hx hb de_F_reduce_7 rfl (lv_at hl 0 rfl) ?_
  refine va_get (D := (dC, dI)) (ci := 8) (v := .long (t.2.2.1 8)) (C := "StabilitySums$Fraction") (T := TB_F) (N := 2) hx hb hts ui_F hown hK hP 8 rfl rfl 1 (by decide) (hts _ uw_248) (fun _ h9 => h9) rfl de_F_reduce_8 ?_
  refine cl_Sl (As := [.long v_1, .long (t.2.2.1 8)]) (rest := []) ⟨hx, hb, hml, hown, hts⟩ (mt_F_commonDivisor l dC dI ad T t v_1 (t.2.2.1 8)) (va_cwS 2 hts (uw_S uw_626 uw_627 uw_35 uw_628) rfl rfl rfl (by decide +kernel) ⟨Nat.le_of_ble_eq_true rfl, Nat.le_of_ble_eq_true rfl⟩) rfl hl.1 rfl (by decide) de_F_reduce_11 ⟨Nat.zero_le _, Nat.zero_le _⟩ hK hN hP hD hS hA (fun r_2 _ H locs hw_2 hP hD hS => ?_)
  have hw_2 : r_2 = x_gcd 1000 v_1 (t.2.2.1 8) := hw_2
  refine lv_lstore_n (lv' := [(1, .long r_2), (0, .ref (ad 8))]) hx hb de_F_reduce_14 rfl hl (by decide) rfl (fun ls hl => ?_)
  refine lv_lload_n hx hb de_F_reduce_15 rfl (lv_at hl 0 rfl) ?_
  refine lv_lconst (v := 1) hx hb de_F_reduce_16 (by decide) ?_
  refine rw_le (tgt := 41) hx hb de_F_reduce_17 de_F_reduce_18 (by decide) (fun c_3 => ?_) (fun c_3 => ?_)
  · skip
    have hfin : t = x_red t := by
      subst_vars; unfold x_red x_abs; first | rw [if_pos c_3] | rw [if_neg c_3]
    rw [hfin] at hP hD
    subst hQ
    exact W.vret hx hb hr (fun t9 ht hW => ⟨⟨(), rfl, trivial, by rw [ht]; exact hP, va_K.moved hW.alike hK, hD⟩, hS.F ht⟩) hS.2.2 de_F_reduce_41
  · skip
    refine lv_aload_n hx hb de_F_reduce_21 rfl (lv_at hl 1 rfl) ?_
    refine lv_dup hx hb de_F_reduce_22 rfl ?_
    refine va_get (D := (dC, dI)) (ci := 8) (v := .long (t.2.2.1 7)) (C := "StabilitySums$Fraction") (T := TB_F) (N := 2) hx hb hts ui_F hown hK hP 8 rfl rfl 0 (by decide) (hts _ uw_246) (fun _ h9 => h9) rfl de_F_reduce_23 ?_
    refine lv_lload_n hx hb de_F_reduce_26 rfl (lv_at hl 0 rfl) ?_
    refine lv_ldiv hx hb de_F_reduce_27 (fun z => c_3 (by rw [z]; decide)) ?_
    refine lv_topl (fun v_4 ev_4 => ?_)
    have ev_4 : v_4 = (t.2.2.1 7) / r_2 := ev_4
    refine va_put (D := (dC, dI)) (ci := 8) (v := .long v_4) (ty := .long) (C := "StabilitySums$Fraction") (T := TB_F) (N := 2) hx hb hts ui_F tt_F tk_F nm_F hown hK hP hD hS 8 rfl rfl 0 (by decide) (hts _ uw_246) (fun _ h9 => h9) rfl (by decide +kernel) rfl rfl (Nat.le_of_ble_eq_true rfl) de_F_reduce_28 (fun H locs hP hD hS => ?_)
    have hP : va_P (dC, dI) CLS (wS ad T (sF t 7 v_4)) H := hP
    have hD : va_D A (wS ad T (sF t 7 v_4)) := hD
    refine lv_aload_n hx hb de_F_reduce_31 rfl (lv_at hl 1 rfl) ?_
    refine lv_dup hx hb de_F_reduce_32 rfl ?_
    refine va_get (D := (dC, dI)) (ci := 8) (v := .long (t.2.2.1 8)) (C := "StabilitySums$Fraction") (T := TB_F) (N := 2) hx hb hts ui_F hown hK hP 8 rfl rfl 1 (by decide) (hts _ uw_248) (fun _ h9 => h9) rfl de_F_reduce_33 ?_
    refine lv_lload_n hx hb de_F_reduce_36 rfl (lv_at hl 0 rfl) ?_
    refine lv_ldiv hx hb de_F_reduce_37 (fun z => c_3 (by rw [z]; decide)) ?_
    refine lv_topl (fun v_5 ev_5 => ?_)
    have ev_5 : v_5 = (t.2.2.1 8) / r_2 := ev_5
    refine va_put (D := (dC, dI)) (ci := 8) (v := .long v_5) (ty := .long) (C := "StabilitySums$Fraction") (T := TB_F) (N := 2) hx hb hts ui_F tt_F tk_F nm_F hown hK hP hD hS 8 rfl rfl 1 (by decide) (hts _ uw_248) (fun _ h9 => h9) rfl (by decide +kernel) rfl rfl (Nat.le_of_ble_eq_true rfl) de_F_reduce_38 (fun H locs hP hD hS => ?_)
    have hP : va_P (dC, dI) CLS (wS ad T (sF (sF t 7 v_4) 8 v_5)) H := hP
    have hD : va_D A (wS ad T (sF (sF t 7 v_4) 8 v_5)) := hD
    have hfin : (sF (sF t 7 v_4) 8 v_5) = x_red t := by
      subst_vars; unfold x_red x_abs; first | rw [if_pos c_3] | rw [if_neg c_3]
    rw [hfin] at hP hD
    subst hQ
    exact W.vret hx hb hr (fun t9 ht hW => ⟨⟨(), rfl, trivial, by rw [ht]; exact hP, va_K.moved hW.alike hK, hD⟩, hS.F ht⟩) hS.2.2 de_F_reduce_41
set_option maxHeartbeats 4000000 in
set_option maxRecDepth 100000 in
theorem mt_B_read13 (l : Launch) (dC : Nat → ClassId) (dI : Nat → Nat → Nat) (ad : Nat → Nat) (T : Nat → ClassId) (t : St) (a1 : Int64) (hc : t.2.2.2 2 ≤ 12) (sz : Nat) : Met l yn_B_read (.code yn_B_read cd_B_read 12 none :: UW) ({ frames := 1, cells := 0, slots := 0, locals := 24 } : Room) (va_Pc [.ref (ad 3), .ref (ad 22), .long a1, .ref (ad 8)] (Pw (dC, dI) CLS (TY T) (wS ad T t) sz)) (va_Qv (fun _ : Unit => True) (Bw (dC, dI) CLS (TY T) (fun _ : Unit => (wS ad T (x_read 13 a1 t))) (va_A (wS ad T t) sz)) (va_A (wS ad T t) sz)) 0 0 (va_A (wS ad T t) sz) := by
  refine Met.ofW (cc := cd_B_read) (maxL := 12) (ret := none) (by decide) rfl ?_
  intro p e s m args below meth c s₁ B hml hv
  obtain ⟨rfl, hsz, hP, hK, hD0, hN⟩ := hv
  have hx := B.exec
  have hb := B.bytes
  have hr := B.returns
  have hts : ∀ w ∈ UW, w.before _ s = true := fun w h => atoms_spec (ws := .code yn_B_read cd_B_read 12 none :: UW) B.pre w (List.mem_cons_of_mem _ h)
  have hown : s.vm.findClass "StabilitySums$Table" = some m.cls := findClass_of_methodNamed B.named
  have hlocks := B.notSynchronized
  subst hsz
  have hD := hD0.self (sz := s.heap.size)
  generalize hAe : va_A (wS ad T t) s.heap.size = A at hD ⊢
  have hA : ∀ q : Nat, s.heap.size ≤ q → A q := fun q h => by rw [← hAe]; exact Or.inr h
  have hS : va_S A s.heap s.heap [] := va_S.rf
  have hl := lv_entry ([.ref (ad 3), .ref (ad 22), .long a1, .ref (ad 8)]) (n := 12) (Nat.le_of_ble_eq_true rfl)
  rw [lg_entry_eq]
  generalize (lg_sl ([.ref (ad 3), .ref (ad 22), .long a1, .ref (ad 8)]) ++ List.replicate (12 - (lg_sl ([.ref (ad 3), .ref (ad 22), .long a1, .ref (ad 8)])).length) Slot.unset).toArray = ls at hl ⊢
  have hl : lv_has ls 12 [(0, .ref (ad 3)), (1, .ref (ad 22)), (2, .long a1), (4, .ref (ad 8))] := hl
  generalize hQ : MQ below _ _ s 0 0 A = Q
  refine lv_iconst (v := 0) hx hb de_B_read_0 (by decide) ?_
  refine lv_istore (lv' := [(5, .int 0), (0, .ref (ad 3)), (1, .ref (ad 22)), (2, .long a1), (4, .ref (ad 8))]) hx hb de_B_read_1 hl (by decide) rfl (fun ls hl => ?_)
  have loop_3 : ∀ (n : Nat) (i : Nat), (i + n = t.2.2.2 2) → (x_abv t a1 n i = x_abv t a1 (t.2.2.2 2) 0) → ∀ (H : Heap) (locs : List Loc) (ls : Array Slot), va_P (dC, dI) CLS (wS ad T t) H → va_D A (wS ad T t) → va_S A s.heap H locs → lv_has ls 12 [(0, .ref (ad 3)), (1, .ref (ad 22)), (2, .long a1), (4, .ref (ad 8)), (5, .int (nI i))] → W p l e (headSpec (.code yn_B_read cd_B_read 12 none :: UW) ({ frames := 1, cells := 0, slots := 0, locals := 24 } : Room)).room s m ([.ref (ad 3), .ref (ad 22), .long a1, .ref (ad 8)] : List Value).toArray below meth c H locs 0 0 Q (F0 m 3 ls []) := by
    intro n
    induction n with
    | zero =>
      intro i hi hq H locs ls hP hD hS hl
      refine lv_iload hx hb de_B_read_3 (lv_at hl 4 rfl) ?_
      refine lv_aload_n hx hb de_B_read_5 rfl (lv_at hl 0 rfl) ?_
      refine va_get (D := (dC, dI)) (ci := 3) (v := .int (nI (t.2.2.2 2))) (C := "StabilitySums$Table") (T := TB_B) (N := 4) hx hb hts ui_B hown hK hP 3 rfl rfl 3 (by decide) (hts _ uw_134) (fun _ h9 => h9) rfl de_B_read_6 ?_
      refine lv_icmp_ge (tgt := 30) hx hb de_B_read_9 (by decide) (fun c_1 => ?_) (fun c_1 => ?_)
      · skip
        have c_1 : (t.2.2.2 2) ≤ i := (nI_leI (a := (t.2.2.2 2)) (b := i) (by omega) (by omega)).mp c_1
        have hi9 : i = x_abv t a1 (t.2.2.2 2) 0 := by rw [← hq]; first | rfl | (rw [x_abv, if_pos c_1])
        refine lv_aload_n hx hb de_B_read_30 rfl (lv_at hl 0 rfl) ?_
        refine va_get (D := (dC, dI)) (ci := 3) (v := .int (nI (t.2.2.2 2))) (C := "StabilitySums$Table") (T := TB_B) (N := 4) hx hb hts ui_B hown hK hP 3 rfl rfl 3 (by decide) (hts _ uw_134) (fun _ h9 => h9) rfl de_B_read_31 ?_
        refine lv_if_ne (tgt := 47) hx hb de_B_read_34 (by decide) (fun c_2 => ?_) (fun c_2 => ?_)
        · skip
          have c_2 : ¬ (t.2.2.2 2) = 0 := fun z => c_2 ((nz0 (by omega)).mpr z)
          refine lv_iload hx hb de_B_read_47 (lv_at hl 4 rfl) ?_
          refine lv_if_ne (tgt := 64) hx hb de_B_read_49 (by decide) (fun c_3 => ?_) (fun c_3 => ?_)
          · skip
            have c_3 : ¬ i = 0 := fun z => c_3 ((nz0 (by omega)).mpr z)
            refine lv_iload hx hb de_B_read_64 (lv_at hl 4 rfl) ?_
            refine lv_aload_n hx hb de_B_read_66 rfl (lv_at hl 0 rfl) ?_
            refine va_get (D := (dC, dI)) (ci := 3) (v := .int (nI (t.2.2.2 2))) (C := "StabilitySums$Table") (T := TB_B) (N := 4) hx hb hts ui_B hown hK hP 3 rfl rfl 3 (by decide) (hts _ uw_134) (fun _ h9 => h9) rfl de_B_read_67 ?_
            refine lv_icmp_ne (tgt := 90) hx hb de_B_read_70 (by decide) (fun c_4 => ?_) (fun c_4 => ?_)
            · skip
              have c_4 : ¬ (i = (t.2.2.2 2)) := fun z => c_4 ((nI_eq (a := i) (b := (t.2.2.2 2)) (by omega) (by omega)).mpr z)
              refine lv_aload_n hx hb de_B_read_90 rfl (lv_at hl 0 rfl) ?_
              refine va_get (D := (dC, dI)) (ci := 3) (v := .ref (ad 21)) (C := "StabilitySums$Table") (T := TB_B) (N := 4) hx hb hts ui_B hown hK hP 3 rfl rfl 0 (by decide) (hts _ uw_129) (fun _ h9 => h9) rfl de_B_read_91 ?_
              refine lv_iload hx hb de_B_read_94 (lv_at hl 4 rfl) ?_
              refine rw_lald (f := t.1 12) (j := i) hx hb hK hP 21 0 rfl rfl (by omega) (by decide) de_B_read_96 ?_
              refine lv_aload_n hx hb de_B_read_97 rfl (lv_at hl 0 rfl) ?_
              refine va_get (D := (dC, dI)) (ci := 3) (v := .ref (ad 21)) (C := "StabilitySums$Table") (T := TB_B) (N := 4) hx hb hts ui_B hown hK hP 3 rfl rfl 0 (by decide) (hts _ uw_129) (fun _ h9 => h9) rfl de_B_read_98 ?_
              refine lv_iload hx hb de_B_read_101 (lv_at hl 4 rfl) ?_
              refine lv_iconst (v := 1) hx hb de_B_read_103 (by decide) ?_
              refine lv_isub hx hb de_B_read_104 ?_
              refine lv_topi (fun v_5 ev_5 => ?_)
              have ev_5 : v_5 = (nI (i - 1)) := ev_5.trans (pk_sub (a := i) (b := 1) (by omega))
              subst ev_5
              refine rw_lald (f := t.1 12) (j := (i - 1)) hx hb hK hP 21 0 rfl rfl (by omega) (by decide) de_B_read_105 ?_
              refine lv_lsub hx hb de_B_read_106 ?_
              refine lv_topl (fun v_6 ev_6 => ?_)
              have ev_6 : v_6 = (t.1 12 i) - (t.1 12 (i - 1)) := ev_6
              refine lv_lstore (lv' := [(6, .long v_6), (0, .ref (ad 3)), (1, .ref (ad 22)), (2, .long a1), (4, .ref (ad 8)), (5, .int (nI i))]) hx hb de_B_read_107 hl (by decide) rfl (fun ls hl => ?_)
              refine lv_lload_n hx hb de_B_read_109 rfl (lv_at hl 3 rfl) ?_
              refine lv_aload_n hx hb de_B_read_110 rfl (lv_at hl 1 rfl) ?_
              refine va_get (D := (dC, dI)) (ci := 3) (v := .ref (ad 21)) (C := "StabilitySums$Table") (T := TB_B) (N := 4) hx hb hts ui_B hown hK hP 3 rfl rfl 0 (by decide) (hts _ uw_129) (fun _ h9 => h9) rfl de_B_read_111 ?_
              refine lv_iload hx hb de_B_read_114 (lv_at hl 5 rfl) ?_
              refine lv_iconst (v := 1) hx hb de_B_read_116 (by decide) ?_
              refine lv_isub hx hb de_B_read_117 ?_
              refine lv_topi (fun v_7 ev_7 => ?_)
              have ev_7 : v_7 = (nI (i - 1)) := ev_7.trans (pk_sub (a := i) (b := 1) (by omega))
              subst ev_7
              refine rw_lald (f := t.1 12) (j := (i - 1)) hx hb hK hP 21 0 rfl rfl (by omega) (by decide) de_B_read_118 ?_
              refine lv_lsub hx hb de_B_read_119 ?_
              refine lv_topl (fun v_8 ev_8 => ?_)
              have ev_8 : v_8 = a1 - (t.1 12 (i - 1)) := ev_8
              refine lv_lstore (lv' := [(8, .long v_8), (6, .long v_6), (0, .ref (ad 3)), (1, .ref (ad 22)), (2, .long a1), (4, .ref (ad 8)), (5, .int (nI i))]) hx hb de_B_read_120 hl (by decide) rfl (fun ls hl => ?_)
              refine lv_aload_n hx hb de_B_read_122 rfl (lv_at hl 3 rfl) ?_
              refine lv_iload hx hb de_B_read_123 (lv_at hl 6 rfl) ?_
              refine rw_lald (f := t.1 13) (j := i) hx hb hK hP 22 0 rfl rfl (by omega) (by decide) de_B_read_125 ?_
              refine lv_aload_n hx hb de_B_read_126 rfl (lv_at hl 3 rfl) ?_
              refine lv_iload hx hb de_B_read_127 (lv_at hl 6 rfl) ?_
              refine lv_iconst (v := 1) hx hb de_B_read_129 (by decide) ?_
              refine lv_isub hx hb de_B_read_130 ?_
              refine lv_topi (fun v_9 ev_9 => ?_)
              have ev_9 : v_9 = (nI (i - 1)) := ev_9.trans (pk_sub (a := i) (b := 1) (by omega))
              subst ev_9
              refine rw_lald (f := t.1 13) (j := (i - 1)) hx hb hK hP 22 0 rfl rfl (by omega) (by decide) de_B_read_131 ?_
              refine lv_lsub hx hb de_B_read_132 ?_
              refine lv_topl (fun v_10 ev_10 => ?_)
              have ev_10 : v_10 = (t.1 13 i) - (t.1 13 (i - 1)) := ev_10
              refine lv_lstore (lv' := [(10, .long v_10), (8, .long v_8), (6, .long v_6), (0, .ref (ad 3)), (1, .ref (ad 22)), (2, .long a1), (4, .ref (ad 8)), (5, .int (nI i))]) hx hb de_B_read_133 hl (by decide) rfl (fun ls hl => ?_)
              refine lv_aload hx hb de_B_read_135 (lv_at hl 6 rfl) ?_
              refine lv_aload_n hx hb de_B_read_137 rfl (lv_at hl 4 rfl) ?_
              refine lv_iload hx hb de_B_read_138 (lv_at hl 7 rfl) ?_
              refine lv_iconst (v := 1) hx hb de_B_read_140 (by decide) ?_
              refine lv_isub hx hb de_B_read_141 ?_
              refine lv_topi (fun v_11 ev_11 => ?_)
              have ev_11 : v_11 = (nI (i - 1)) := ev_11.trans (pk_sub (a := i) (b := 1) (by omega))
              subst ev_11
              refine rw_lald (f := t.1 13) (j := (i - 1)) hx hb hK hP 22 0 rfl rfl (by omega) (by decide) de_B_read_142 ?_
              refine lv_lload hx hb de_B_read_143 (lv_at hl 2 rfl) ?_
              refine lv_lmul hx hb de_B_read_145 ?_
              refine lv_topl (fun v_12 ev_12 => ?_)
              have ev_12 : v_12 = (t.1 13 (i - 1)) * v_6 := ev_12
              refine lv_lload hx hb de_B_read_146 (lv_at hl 0 rfl) ?_
              refine lv_lload hx hb de_B_read_148 (lv_at hl 1 rfl) ?_
              refine lv_lmul hx hb de_B_read_150 ?_
              refine lv_topl (fun v_13 ev_13 => ?_)
              have ev_13 : v_13 = v_10 * v_8 := ev_13
              refine lv_ladd hx hb de_B_read_151 ?_
              refine lv_topl (fun v_14 ev_14 => ?_)
              have ev_14 : v_14 = v_12 + v_13 := ev_14
              refine lv_lload hx hb de_B_read_152 (lv_at hl 2 rfl) ?_
              refine cl_Vv (As := [.long v_14, .long v_6]) (rest := []) ⟨hx, hb, hml, hown, hts⟩ (mt_F_put l dC dI ad T t v_14 v_6) (cwV 2 hts (uw_V uw_384 uw_377 uw_378 uw_35 uw_379) rfl rfl rfl (by decide +kernel) ⟨Nat.le_of_ble_eq_true rfl, Nat.le_of_ble_eq_true rfl⟩) (va_recv hK hP (ci := 8) (q0 := 8) rfl rfl) rfl hl.1 rfl (by decide) de_B_read_154 ⟨Nat.zero_le _, Nat.zero_le _⟩ hK hN hP hD hS hA (fun _ H locs hw_15 hP hD hS => ?_)
              obtain ⟨t_16, et_16⟩ : ∃ z, z = x_put v_14 v_6 t := ⟨_, rfl⟩
              have hP : va_P (dC, dI) CLS (wS ad T t_16) H := by rw [et_16]; exact hP
              have hD : va_D A (wS ad T t_16) := by rw [et_16]; exact hD
              obtain ⟨_, _, _, _, _, _⟩ : N6p t_16 t := by rw [et_16]; exact nsix (x_put_N _ _ _)
              have hfin : t_16 = x_read 13 a1 t := by
                subst_vars; unfold x_read; simp only [c_1, c_2, c_3, c_4, ↓reduceIte]
              rw [hfin] at hP hD
              subst hQ
              exact W.vret hx hb hr (fun t9 ht hW => ⟨⟨(), rfl, trivial, by rw [ht]; exact hP, va_K.moved hW.alike hK, hD⟩, hS.F ht⟩) hS.2.2 de_B_read_157
            · skip
              have c_4 : i = (t.2.2.2 2) := (nI_eq (a := i) (b := (t.2.2.2 2)) (by omega) (by omega)).mp c_4
              refine lv_aload hx hb de_B_read_73 (lv_at hl 3 rfl) ?_
              refine lv_aload_n hx hb de_B_read_75 rfl (lv_at hl 1 rfl) ?_
              refine lv_aload_n hx hb de_B_read_76 rfl (lv_at hl 0 rfl) ?_
              refine va_get (D := (dC, dI)) (ci := 3) (v := .int (nI (t.2.2.2 2))) (C := "StabilitySums$Table") (T := TB_B) (N := 4) hx hb hts ui_B hown hK hP 3 rfl rfl 3 (by decide) (hts _ uw_134) (fun _ h9 => h9) rfl de_B_read_77 ?_
              refine lv_iconst (v := 1) hx hb de_B_read_80 (by decide) ?_
              refine lv_isub hx hb de_B_read_81 ?_
              refine lv_topi (fun v_17 ev_17 => ?_)
              have ev_17 : v_17 = (nI ((t.2.2.2 2) - 1)) := ev_17.trans (pk_sub (a := (t.2.2.2 2)) (b := 1) (by omega))
              subst ev_17
              refine rw_lald (f := t.1 13) (j := ((t.2.2.2 2) - 1)) hx hb hK hP 22 0 rfl rfl (by omega) (by decide) de_B_read_82 ?_
              refine lv_lconst (v := 1) hx hb de_B_read_83 (by decide) ?_
              refine cl_Vv (As := [.long (t.1 13 ((t.2.2.2 2) - 1)), .long 1]) (rest := []) ⟨hx, hb, hml, hown, hts⟩ (mt_F_put l dC dI ad T t (t.1 13 ((t.2.2.2 2) - 1)) 1) (cwV 2 hts (uw_V uw_384 uw_377 uw_378 uw_35 uw_379) rfl rfl rfl (by decide +kernel) ⟨Nat.le_of_ble_eq_true rfl, Nat.le_of_ble_eq_true rfl⟩) (va_recv hK hP (ci := 8) (q0 := 8) rfl rfl) rfl hl.1 rfl (by decide) de_B_read_84 ⟨Nat.zero_le _, Nat.zero_le _⟩ hK hN hP hD hS hA (fun _ H locs hw_18 hP hD hS => ?_)
              obtain ⟨t_19, et_19⟩ : ∃ z, z = x_put (t.1 13 ((t.2.2.2 2) - 1)) 1 t := ⟨_, rfl⟩
              have hP : va_P (dC, dI) CLS (wS ad T t_19) H := by rw [et_19]; exact hP
              have hD : va_D A (wS ad T t_19) := by rw [et_19]; exact hD
              obtain ⟨_, _, _, _, _, _⟩ : N6p t_19 t := by rw [et_19]; exact nsix (x_put_N _ _ _)
              refine lv_goto (tgt := 157) hx hb de_B_read_87 (by decide) ?_
              have hfin : t_19 = x_read 13 a1 t := by
                subst_vars; unfold x_read; simp only [c_1, c_2, c_3, c_4, ↓reduceIte]
              rw [hfin] at hP hD
              subst hQ
              exact W.vret hx hb hr (fun t9 ht hW => ⟨⟨(), rfl, trivial, by rw [ht]; exact hP, va_K.moved hW.alike hK, hD⟩, hS.F ht⟩) hS.2.2 de_B_read_157
          · skip
            have c_3 : i = 0 := (nz0 (by omega)).mp c_3
            refine lv_aload hx hb de_B_read_52 (lv_at hl 3 rfl) ?_
            refine lv_aload_n hx hb de_B_read_54 rfl (lv_at hl 1 rfl) ?_
            refine lv_iconst (v := 0) hx hb de_B_read_55 (by decide) ?_
            refine rw_lald (f := t.1 13) (j := 0) hx hb hK hP 22 0 rfl rfl (by decide) (by decide) de_B_read_56 ?_
            refine lv_lconst (v := 1) hx hb de_B_read_57 (by decide) ?_
            refine cl_Vv (As := [.long (t.1 13 0), .long 1]) (rest := []) ⟨hx, hb, hml, hown, hts⟩ (mt_F_put l dC dI ad T t (t.1 13 0) 1) (cwV 2 hts (uw_V uw_384 uw_377 uw_378 uw_35 uw_379) rfl rfl rfl (by decide +kernel) ⟨Nat.le_of_ble_eq_true rfl, Nat.le_of_ble_eq_true rfl⟩) (va_recv hK hP (ci := 8) (q0 := 8) rfl rfl) rfl hl.1 rfl (by decide) de_B_read_58 ⟨Nat.zero_le _, Nat.zero_le _⟩ hK hN hP hD hS hA (fun _ H locs hw_20 hP hD hS => ?_)
            obtain ⟨t_21, et_21⟩ : ∃ z, z = x_put (t.1 13 0) 1 t := ⟨_, rfl⟩
            have hP : va_P (dC, dI) CLS (wS ad T t_21) H := by rw [et_21]; exact hP
            have hD : va_D A (wS ad T t_21) := by rw [et_21]; exact hD
            obtain ⟨_, _, _, _, _, _⟩ : N6p t_21 t := by rw [et_21]; exact nsix (x_put_N _ _ _)
            refine lv_goto (tgt := 157) hx hb de_B_read_61 (by decide) ?_
            have hfin : t_21 = x_read 13 a1 t := by
              subst_vars; unfold x_read; simp only [c_1, c_2, c_3, ↓reduceIte]
            rw [hfin] at hP hD
            subst hQ
            exact W.vret hx hb hr (fun t9 ht hW => ⟨⟨(), rfl, trivial, by rw [ht]; exact hP, va_K.moved hW.alike hK, hD⟩, hS.F ht⟩) hS.2.2 de_B_read_157
        · skip
          have c_2 : (t.2.2.2 2) = 0 := (nz0 (by omega)).mp c_2
          refine lv_aload hx hb de_B_read_37 (lv_at hl 3 rfl) ?_
          refine lv_lconst (v := 0) hx hb de_B_read_39 (by decide) ?_
          refine lv_lconst (v := 1) hx hb de_B_read_40 (by decide) ?_
          refine cl_Vv (As := [.long 0, .long 1]) (rest := []) ⟨hx, hb, hml, hown, hts⟩ (mt_F_put l dC dI ad T t 0 1) (cwV 2 hts (uw_V uw_384 uw_377 uw_378 uw_35 uw_379) rfl rfl rfl (by decide +kernel) ⟨Nat.le_of_ble_eq_true rfl, Nat.le_of_ble_eq_true rfl⟩) (va_recv hK hP (ci := 8) (q0 := 8) rfl rfl) rfl hl.1 rfl (by decide) de_B_read_41 ⟨Nat.zero_le _, Nat.zero_le _⟩ hK hN hP hD hS hA (fun _ H locs hw_22 hP hD hS => ?_)
          obtain ⟨t_23, et_23⟩ : ∃ z, z = x_put 0 1 t := ⟨_, rfl⟩
          have hP : va_P (dC, dI) CLS (wS ad T t_23) H := by rw [et_23]; exact hP
          have hD : va_D A (wS ad T t_23) := by rw [et_23]; exact hD
          obtain ⟨_, _, _, _, _, _⟩ : N6p t_23 t := by rw [et_23]; exact nsix (x_put_N _ _ _)
          refine lv_goto (tgt := 157) hx hb de_B_read_44 (by decide) ?_
          have hfin : t_23 = x_read 13 a1 t := by
            subst_vars; unfold x_read; simp only [c_1, c_2, ↓reduceIte]
          rw [hfin] at hP hD
          subst hQ
          exact W.vret hx hb hr (fun t9 ht hW => ⟨⟨(), rfl, trivial, by rw [ht]; exact hP, va_K.moved hW.alike hK, hD⟩, hS.F ht⟩) hS.2.2 de_B_read_157
      · skip
        have c_1 : ¬ ((t.2.2.2 2) ≤ i) := fun z => c_1 ((nI_leI (a := (t.2.2.2 2)) (b := i) (by omega) (by omega)).mpr z)
        exfalso; omega
    | succ n ih =>
      intro i hi hq H locs ls hP hD hS hl
      refine lv_iload hx hb de_B_read_3 (lv_at hl 4 rfl) ?_
      refine lv_aload_n hx hb de_B_read_5 rfl (lv_at hl 0 rfl) ?_
      refine va_get (D := (dC, dI)) (ci := 3) (v := .int (nI (t.2.2.2 2))) (C := "StabilitySums$Table") (T := TB_B) (N := 4) hx hb hts ui_B hown hK hP 3 rfl rfl 3 (by decide) (hts _ uw_134) (fun _ h9 => h9) rfl de_B_read_6 ?_
      refine lv_icmp_ge (tgt := 30) hx hb de_B_read_9 (by decide) (fun c_24 => ?_) (fun c_24 => ?_)
      · skip
        have c_24 : (t.2.2.2 2) ≤ i := (nI_leI (a := (t.2.2.2 2)) (b := i) (by omega) (by omega)).mp c_24
        exfalso; omega
      · skip
        have c_24 : ¬ ((t.2.2.2 2) ≤ i) := fun z => c_24 ((nI_leI (a := (t.2.2.2 2)) (b := i) (by omega) (by omega)).mpr z)
        refine lv_aload_n hx hb de_B_read_12 rfl (lv_at hl 0 rfl) ?_
        refine va_get (D := (dC, dI)) (ci := 3) (v := .ref (ad 21)) (C := "StabilitySums$Table") (T := TB_B) (N := 4) hx hb hts ui_B hown hK hP 3 rfl rfl 0 (by decide) (hts _ uw_129) (fun _ h9 => h9) rfl de_B_read_13 ?_
        refine lv_iload hx hb de_B_read_16 (lv_at hl 4 rfl) ?_
        refine rw_lald (f := t.1 12) (j := i) hx hb hK hP 21 0 rfl rfl (by omega) (by decide) de_B_read_18 ?_
        refine lv_lload_n hx hb de_B_read_19 rfl (lv_at hl 2 rfl) ?_
        refine rw_ge (tgt := 30) hx hb de_B_read_20 de_B_read_21 (by decide) (fun c_25 => ?_) (fun c_25 => ?_)
        · skip
          have hi9 : i = x_abv t a1 (t.2.2.2 2) 0 := by rw [← hq]; first | rfl | (rw [x_abv, if_pos c_25])
          refine lv_aload_n hx hb de_B_read_30 rfl (lv_at hl 0 rfl) ?_
          refine va_get (D := (dC, dI)) (ci := 3) (v := .int (nI (t.2.2.2 2))) (C := "StabilitySums$Table") (T := TB_B) (N := 4) hx hb hts ui_B hown hK hP 3 rfl rfl 3 (by decide) (hts _ uw_134) (fun _ h9 => h9) rfl de_B_read_31 ?_
          refine lv_if_ne (tgt := 47) hx hb de_B_read_34 (by decide) (fun c_26 => ?_) (fun c_26 => ?_)
          · skip
            have c_26 : ¬ (t.2.2.2 2) = 0 := fun z => c_26 ((nz0 (by omega)).mpr z)
            refine lv_iload hx hb de_B_read_47 (lv_at hl 4 rfl) ?_
            refine lv_if_ne (tgt := 64) hx hb de_B_read_49 (by decide) (fun c_27 => ?_) (fun c_27 => ?_)
            · skip
              have c_27 : ¬ i = 0 := fun z => c_27 ((nz0 (by omega)).mpr z)
              refine lv_iload hx hb de_B_read_64 (lv_at hl 4 rfl) ?_
              refine lv_aload_n hx hb de_B_read_66 rfl (lv_at hl 0 rfl) ?_
              refine va_get (D := (dC, dI)) (ci := 3) (v := .int (nI (t.2.2.2 2))) (C := "StabilitySums$Table") (T := TB_B) (N := 4) hx hb hts ui_B hown hK hP 3 rfl rfl 3 (by decide) (hts _ uw_134) (fun _ h9 => h9) rfl de_B_read_67 ?_
              refine lv_icmp_ne (tgt := 90) hx hb de_B_read_70 (by decide) (fun c_28 => ?_) (fun c_28 => ?_)
              · skip
                have c_28 : ¬ (i = (t.2.2.2 2)) := fun z => c_28 ((nI_eq (a := i) (b := (t.2.2.2 2)) (by omega) (by omega)).mpr z)
                refine lv_aload_n hx hb de_B_read_90 rfl (lv_at hl 0 rfl) ?_
                refine va_get (D := (dC, dI)) (ci := 3) (v := .ref (ad 21)) (C := "StabilitySums$Table") (T := TB_B) (N := 4) hx hb hts ui_B hown hK hP 3 rfl rfl 0 (by decide) (hts _ uw_129) (fun _ h9 => h9) rfl de_B_read_91 ?_
                refine lv_iload hx hb de_B_read_94 (lv_at hl 4 rfl) ?_
                refine rw_lald (f := t.1 12) (j := i) hx hb hK hP 21 0 rfl rfl (by omega) (by decide) de_B_read_96 ?_
                refine lv_aload_n hx hb de_B_read_97 rfl (lv_at hl 0 rfl) ?_
                refine va_get (D := (dC, dI)) (ci := 3) (v := .ref (ad 21)) (C := "StabilitySums$Table") (T := TB_B) (N := 4) hx hb hts ui_B hown hK hP 3 rfl rfl 0 (by decide) (hts _ uw_129) (fun _ h9 => h9) rfl de_B_read_98 ?_
                refine lv_iload hx hb de_B_read_101 (lv_at hl 4 rfl) ?_
                refine lv_iconst (v := 1) hx hb de_B_read_103 (by decide) ?_
                refine lv_isub hx hb de_B_read_104 ?_
                refine lv_topi (fun v_29 ev_29 => ?_)
                have ev_29 : v_29 = (nI (i - 1)) := ev_29.trans (pk_sub (a := i) (b := 1) (by omega))
                subst ev_29
                refine rw_lald (f := t.1 12) (j := (i - 1)) hx hb hK hP 21 0 rfl rfl (by omega) (by decide) de_B_read_105 ?_
                refine lv_lsub hx hb de_B_read_106 ?_
                refine lv_topl (fun v_30 ev_30 => ?_)
                have ev_30 : v_30 = (t.1 12 i) - (t.1 12 (i - 1)) := ev_30
                refine lv_lstore (lv' := [(6, .long v_30), (0, .ref (ad 3)), (1, .ref (ad 22)), (2, .long a1), (4, .ref (ad 8)), (5, .int (nI i))]) hx hb de_B_read_107 hl (by decide) rfl (fun ls hl => ?_)
                refine lv_lload_n hx hb de_B_read_109 rfl (lv_at hl 3 rfl) ?_
                refine lv_aload_n hx hb de_B_read_110 rfl (lv_at hl 1 rfl) ?_
                refine va_get (D := (dC, dI)) (ci := 3) (v := .ref (ad 21)) (C := "StabilitySums$Table") (T := TB_B) (N := 4) hx hb hts ui_B hown hK hP 3 rfl rfl 0 (by decide) (hts _ uw_129) (fun _ h9 => h9) rfl de_B_read_111 ?_
                refine lv_iload hx hb de_B_read_114 (lv_at hl 5 rfl) ?_
                refine lv_iconst (v := 1) hx hb de_B_read_116 (by decide) ?_
                refine lv_isub hx hb de_B_read_117 ?_
                refine lv_topi (fun v_31 ev_31 => ?_)
                have ev_31 : v_31 = (nI (i - 1)) := ev_31.trans (pk_sub (a := i) (b := 1) (by omega))
                subst ev_31
                refine rw_lald (f := t.1 12) (j := (i - 1)) hx hb hK hP 21 0 rfl rfl (by omega) (by decide) de_B_read_118 ?_
                refine lv_lsub hx hb de_B_read_119 ?_
                refine lv_topl (fun v_32 ev_32 => ?_)
                have ev_32 : v_32 = a1 - (t.1 12 (i - 1)) := ev_32
                refine lv_lstore (lv' := [(8, .long v_32), (6, .long v_30), (0, .ref (ad 3)), (1, .ref (ad 22)), (2, .long a1), (4, .ref (ad 8)), (5, .int (nI i))]) hx hb de_B_read_120 hl (by decide) rfl (fun ls hl => ?_)
                refine lv_aload_n hx hb de_B_read_122 rfl (lv_at hl 3 rfl) ?_
                refine lv_iload hx hb de_B_read_123 (lv_at hl 6 rfl) ?_
                refine rw_lald (f := t.1 13) (j := i) hx hb hK hP 22 0 rfl rfl (by omega) (by decide) de_B_read_125 ?_
                refine lv_aload_n hx hb de_B_read_126 rfl (lv_at hl 3 rfl) ?_
                refine lv_iload hx hb de_B_read_127 (lv_at hl 6 rfl) ?_
                refine lv_iconst (v := 1) hx hb de_B_read_129 (by decide) ?_
                refine lv_isub hx hb de_B_read_130 ?_
                refine lv_topi (fun v_33 ev_33 => ?_)
                have ev_33 : v_33 = (nI (i - 1)) := ev_33.trans (pk_sub (a := i) (b := 1) (by omega))
                subst ev_33
                refine rw_lald (f := t.1 13) (j := (i - 1)) hx hb hK hP 22 0 rfl rfl (by omega) (by decide) de_B_read_131 ?_
                refine lv_lsub hx hb de_B_read_132 ?_
                refine lv_topl (fun v_34 ev_34 => ?_)
                have ev_34 : v_34 = (t.1 13 i) - (t.1 13 (i - 1)) := ev_34
                refine lv_lstore (lv' := [(10, .long v_34), (8, .long v_32), (6, .long v_30), (0, .ref (ad 3)), (1, .ref (ad 22)), (2, .long a1), (4, .ref (ad 8)), (5, .int (nI i))]) hx hb de_B_read_133 hl (by decide) rfl (fun ls hl => ?_)
                refine lv_aload hx hb de_B_read_135 (lv_at hl 6 rfl) ?_
                refine lv_aload_n hx hb de_B_read_137 rfl (lv_at hl 4 rfl) ?_
                refine lv_iload hx hb de_B_read_138 (lv_at hl 7 rfl) ?_
                refine lv_iconst (v := 1) hx hb de_B_read_140 (by decide) ?_
                refine lv_isub hx hb de_B_read_141 ?_
                refine lv_topi (fun v_35 ev_35 => ?_)
                have ev_35 : v_35 = (nI (i - 1)) := ev_35.trans (pk_sub (a := i) (b := 1) (by omega))
                subst ev_35
                refine rw_lald (f := t.1 13) (j := (i - 1)) hx hb hK hP 22 0 rfl rfl (by omega) (by decide) de_B_read_142 ?_
                refine lv_lload hx hb de_B_read_143 (lv_at hl 2 rfl) ?_
                refine lv_lmul hx hb de_B_read_145 ?_
                refine lv_topl (fun v_36 ev_36 => ?_)
                have ev_36 : v_36 = (t.1 13 (i - 1)) * v_30 := ev_36
                refine lv_lload hx hb de_B_read_146 (lv_at hl 0 rfl) ?_
                refine lv_lload hx hb de_B_read_148 (lv_at hl 1 rfl) ?_
                refine lv_lmul hx hb de_B_read_150 ?_
                refine lv_topl (fun v_37 ev_37 => ?_)
                have ev_37 : v_37 = v_34 * v_32 := ev_37
                refine lv_ladd hx hb de_B_read_151 ?_
                refine lv_topl (fun v_38 ev_38 => ?_)
                have ev_38 : v_38 = v_36 + v_37 := ev_38
                refine lv_lload hx hb de_B_read_152 (lv_at hl 2 rfl) ?_
                refine cl_Vv (As := [.long v_38, .long v_30]) (rest := []) ⟨hx, hb, hml, hown, hts⟩ (mt_F_put l dC dI ad T t v_38 v_30) (cwV 2 hts (uw_V uw_384 uw_377 uw_378 uw_35 uw_379) rfl rfl rfl (by decide +kernel) ⟨Nat.le_of_ble_eq_true rfl, Nat.le_of_ble_eq_true rfl⟩) (va_recv hK hP (ci := 8) (q0 := 8) rfl rfl) rfl hl.1 rfl (by decide) de_B_read_154 ⟨Nat.zero_le _, Nat.zero_le _⟩ hK hN hP hD hS hA (fun _ H locs hw_39 hP hD hS => ?_)
                obtain ⟨t_40, et_40⟩ : ∃ z, z = x_put v_38 v_30 t := ⟨_, rfl⟩
                have hP : va_P (dC, dI) CLS (wS ad T t_40) H := by rw [et_40]; exact hP
                have hD : va_D A (wS ad T t_40) := by rw [et_40]; exact hD
                obtain ⟨_, _, _, _, _, _⟩ : N6p t_40 t := by rw [et_40]; exact nsix (x_put_N _ _ _)
                have hfin : t_40 = x_read 13 a1 t := by
                  subst_vars; unfold x_read; simp only [c_24, c_25, c_26, c_27, c_28, ↓reduceIte]
                rw [hfin] at hP hD
                subst hQ
                exact W.vret hx hb hr (fun t9 ht hW => ⟨⟨(), rfl, trivial, by rw [ht]; exact hP, va_K.moved hW.alike hK, hD⟩, hS.F ht⟩) hS.2.2 de_B_read_157
              · skip
                have c_28 : i = (t.2.2.2 2) := (nI_eq (a := i) (b := (t.2.2.2 2)) (by omega) (by omega)).mp c_28
                refine lv_aload hx hb de_B_read_73 (lv_at hl 3 rfl) ?_
                refine lv_aload_n hx hb de_B_read_75 rfl (lv_at hl 1 rfl) ?_
                refine lv_aload_n hx hb de_B_read_76 rfl (lv_at hl 0 rfl) ?_
                refine va_get (D := (dC, dI)) (ci := 3) (v := .int (nI (t.2.2.2 2))) (C := "StabilitySums$Table") (T := TB_B) (N := 4) hx hb hts ui_B hown hK hP 3 rfl rfl 3 (by decide) (hts _ uw_134) (fun _ h9 => h9) rfl de_B_read_77 ?_
                refine lv_iconst (v := 1) hx hb de_B_read_80 (by decide) ?_
                refine lv_isub hx hb de_B_read_81 ?_
                refine lv_topi (fun v_41 ev_41 => ?_)
                have ev_41 : v_41 = (nI ((t.2.2.2 2) - 1)) := ev_41.trans (pk_sub (a := (t.2.2.2 2)) (b := 1) (by omega))
                subst ev_41
                refine rw_lald (f := t.1 13) (j := ((t.2.2.2 2) - 1)) hx hb hK hP 22 0 rfl rfl (by omega) (by decide) de_B_read_82 ?_
                refine lv_lconst (v := 1) hx hb de_B_read_83 (by decide) ?_
                refine cl_Vv (As := [.long (t.1 13 ((t.2.2.2 2) - 1)), .long 1]) (rest := []) ⟨hx, hb, hml, hown, hts⟩ (mt_F_put l dC dI ad T t (t.1 13 ((t.2.2.2 2) - 1)) 1) (cwV 2 hts (uw_V uw_384 uw_377 uw_378 uw_35 uw_379) rfl rfl rfl (by decide +kernel) ⟨Nat.le_of_ble_eq_true rfl, Nat.le_of_ble_eq_true rfl⟩) (va_recv hK hP (ci := 8) (q0 := 8) rfl rfl) rfl hl.1 rfl (by decide) de_B_read_84 ⟨Nat.zero_le _, Nat.zero_le _⟩ hK hN hP hD hS hA (fun _ H locs hw_42 hP hD hS => ?_)
                obtain ⟨t_43, et_43⟩ : ∃ z, z = x_put (t.1 13 ((t.2.2.2 2) - 1)) 1 t := ⟨_, rfl⟩
                have hP : va_P (dC, dI) CLS (wS ad T t_43) H := by rw [et_43]; exact hP
                have hD : va_D A (wS ad T t_43) := by rw [et_43]; exact hD
                obtain ⟨_, _, _, _, _, _⟩ : N6p t_43 t := by rw [et_43]; exact nsix (x_put_N _ _ _)
                refine lv_goto (tgt := 157) hx hb de_B_read_87 (by decide) ?_
                have hfin : t_43 = x_read 13 a1 t := by
                  subst_vars; unfold x_read; simp only [c_24, c_25, c_26, c_27, c_28, ↓reduceIte]
                rw [hfin] at hP hD
                subst hQ
                exact W.vret hx hb hr (fun t9 ht hW => ⟨⟨(), rfl, trivial, by rw [ht]; exact hP, va_K.moved hW.alike hK, hD⟩, hS.F ht⟩) hS.2.2 de_B_read_157
            · skip
              have c_27 : i = 0 := (nz0 (by omega)).mp c_27
              refine lv_aload hx hb de_B_read_52 (lv_at hl 3 rfl) ?_
              refine lv_aload_n hx hb de_B_read_54 rfl (lv_at hl 1 rfl) ?_
              refine lv_iconst (v := 0) hx hb de_B_read_55 (by decide) ?_
              refine rw_lald (f := t.1 13) (j := 0) hx hb hK hP 22 0 rfl rfl (by decide) (by decide) de_B_read_56 ?_
              refine lv_lconst (v := 1) hx hb de_B_read_57 (by decide) ?_
              refine cl_Vv (As := [.long (t.1 13 0), .long 1]) (rest := []) ⟨hx, hb, hml, hown, hts⟩ (mt_F_put l dC dI ad T t (t.1 13 0) 1) (cwV 2 hts (uw_V uw_384 uw_377 uw_378 uw_35 uw_379) rfl rfl rfl (by decide +kernel) ⟨Nat.le_of_ble_eq_true rfl, Nat.le_of_ble_eq_true rfl⟩) (va_recv hK hP (ci := 8) (q0 := 8) rfl rfl) rfl hl.1 rfl (by decide) de_B_read_58 ⟨Nat.zero_le _, Nat.zero_le _⟩ hK hN hP hD hS hA (fun _ H locs hw_44 hP hD hS => ?_)
              obtain ⟨t_45, et_45⟩ : ∃ z, z = x_put (t.1 13 0) 1 t := ⟨_, rfl⟩
              have hP : va_P (dC, dI) CLS (wS ad T t_45) H := by rw [et_45]; exact hP
              have hD : va_D A (wS ad T t_45) := by rw [et_45]; exact hD
              obtain ⟨_, _, _, _, _, _⟩ : N6p t_45 t := by rw [et_45]; exact nsix (x_put_N _ _ _)
              refine lv_goto (tgt := 157) hx hb de_B_read_61 (by decide) ?_
              have hfin : t_45 = x_read 13 a1 t := by
                subst_vars; unfold x_read; simp only [c_24, c_25, c_26, c_27, ↓reduceIte]
              rw [hfin] at hP hD
              subst hQ
              exact W.vret hx hb hr (fun t9 ht hW => ⟨⟨(), rfl, trivial, by rw [ht]; exact hP, va_K.moved hW.alike hK, hD⟩, hS.F ht⟩) hS.2.2 de_B_read_157
          · skip
            have c_26 : (t.2.2.2 2) = 0 := (nz0 (by omega)).mp c_26
            refine lv_aload hx hb de_B_read_37 (lv_at hl 3 rfl) ?_
            refine lv_lconst (v := 0) hx hb de_B_read_39 (by decide) ?_
            refine lv_lconst (v := 1) hx hb de_B_read_40 (by decide) ?_
            refine cl_Vv (As := [.long 0, .long 1]) (rest := []) ⟨hx, hb, hml, hown, hts⟩ (mt_F_put l dC dI ad T t 0 1) (cwV 2 hts (uw_V uw_384 uw_377 uw_378 uw_35 uw_379) rfl rfl rfl (by decide +kernel) ⟨Nat.le_of_ble_eq_true rfl, Nat.le_of_ble_eq_true rfl⟩) (va_recv hK hP (ci := 8) (q0 := 8) rfl rfl) rfl hl.1 rfl (by decide) de_B_read_41 ⟨Nat.zero_le _, Nat.zero_le _⟩ hK hN hP hD hS hA (fun _ H locs hw_46 hP hD hS => ?_)
            obtain ⟨t_47, et_47⟩ : ∃ z, z = x_put 0 1 t := ⟨_, rfl⟩
            have hP : va_P (dC, dI) CLS (wS ad T t_47) H := by rw [et_47]; exact hP
            have hD : va_D A (wS ad T t_47) := by rw [et_47]; exact hD
            obtain ⟨_, _, _, _, _, _⟩ : N6p t_47 t := by rw [et_47]; exact nsix (x_put_N _ _ _)
            refine lv_goto (tgt := 157) hx hb de_B_read_44 (by decide) ?_
            have hfin : t_47 = x_read 13 a1 t := by
              subst_vars; unfold x_read; simp only [c_24, c_25, c_26, ↓reduceIte]
            rw [hfin] at hP hD
            subst hQ
            exact W.vret hx hb hr (fun t9 ht hW => ⟨⟨(), rfl, trivial, by rw [ht]; exact hP, va_K.moved hW.alike hK, hD⟩, hS.F ht⟩) hS.2.2 de_B_read_157
        · skip
          refine lv_iinc (v := (nI (i + 1))) (lv' := [(5, .int (nI (i + 1))), (0, .ref (ad 3)), (1, .ref (ad 22)), (2, .long a1), (4, .ref (ad 8))]) hx hb de_B_read_24 hl (k := 4) rfl (nI_1 i) (by decide) rfl (fun ls hl => ?_)
          refine lv_goto (tgt := 3) hx hb de_B_read_27 (by decide) ?_
          exact ih (i + 1) (by omega) (by rw [← hq, x_abv, if_neg c_25]) H locs ls hP hD hS (lv_sub hl [1, 2, 3, 4, 0] rfl)
  exact loop_3 (t.2.2.2 2) 0 (by omega) rfl _ _ ls hP hD hS (lv_sub hl [1, 2, 3, 4, 0] rfl)
set_option maxHeartbeats 4000000 in
set_option maxRecDepth 100000 in
theorem mt_B_read14 (l : Launch) (dC : Nat → ClassId) (dI : Nat → Nat → Nat) (ad : Nat → Nat) (T : Nat → ClassId) (t : St) (a1 : Int64) (hc : t.2.2.2 2 ≤ 12) (sz : Nat) : Met l yn_B_read (.code yn_B_read cd_B_read 12 none :: UW) ({ frames := 1, cells := 0, slots := 0, locals := 24 } : Room) (va_Pc [.ref (ad 3), .ref (ad 23), .long a1, .ref (ad 8)] (Pw (dC, dI) CLS (TY T) (wS ad T t) sz)) (va_Qv (fun _ : Unit => True) (Bw (dC, dI) CLS (TY T) (fun _ : Unit => (wS ad T (x_read 14 a1 t))) (va_A (wS ad T t) sz)) (va_A (wS ad T t) sz)) 0 0 (va_A (wS ad T t) sz) := by
  refine Met.ofW (cc := cd_B_read) (maxL := 12) (ret := none) (by decide) rfl ?_
  intro p e s m args below meth c s₁ B hml hv
  obtain ⟨rfl, hsz, hP, hK, hD0, hN⟩ := hv
  have hx := B.exec
  have hb := B.bytes
  have hr := B.returns
  have hts : ∀ w ∈ UW, w.before _ s = true := fun w h => atoms_spec (ws := .code yn_B_read cd_B_read 12 none :: UW) B.pre w (List.mem_cons_of_mem _ h)
  have hown : s.vm.findClass "StabilitySums$Table" = some m.cls := findClass_of_methodNamed B.named
  have hlocks := B.notSynchronized
  subst hsz
  have hD := hD0.self (sz := s.heap.size)
  generalize hAe : va_A (wS ad T t) s.heap.size = A at hD ⊢
  have hA : ∀ q : Nat, s.heap.size ≤ q → A q := fun q h => by rw [← hAe]; exact Or.inr h
  have hS : va_S A s.heap s.heap [] := va_S.rf
  have hl := lv_entry ([.ref (ad 3), .ref (ad 23), .long a1, .ref (ad 8)]) (n := 12) (Nat.le_of_ble_eq_true rfl)
  rw [lg_entry_eq]
  generalize (lg_sl ([.ref (ad 3), .ref (ad 23), .long a1, .ref (ad 8)]) ++ List.replicate (12 - (lg_sl ([.ref (ad 3), .ref (ad 23), .long a1, .ref (ad 8)])).length) Slot.unset).toArray = ls at hl ⊢
  have hl : lv_has ls 12 [(0, .ref (ad 3)), (1, .ref (ad 23)), (2, .long a1), (4, .ref (ad 8))] := hl
  generalize hQ : MQ below _ _ s 0 0 A = Q
  refine lv_iconst (v := 0) hx hb de_B_read_0 (by decide) ?_
  refine lv_istore (lv' := [(5, .int 0), (0, .ref (ad 3)), (1, .ref (ad 23)), (2, .long a1), (4, .ref (ad 8))]) hx hb de_B_read_1 hl (by decide) rfl (fun ls hl => ?_)
  have loop_3 : ∀ (n : Nat) (i : Nat), (i + n = t.2.2.2 2) → (x_abv t a1 n i = x_abv t a1 (t.2.2.2 2) 0) → ∀ (H : Heap) (locs : List Loc) (ls : Array Slot), va_P (dC, dI) CLS (wS ad T t) H → va_D A (wS ad T t) → va_S A s.heap H locs → lv_has ls 12 [(0, .ref (ad 3)), (1, .ref (ad 23)), (2, .long a1), (4, .ref (ad 8)), (5, .int (nI i))] → W p l e (headSpec (.code yn_B_read cd_B_read 12 none :: UW) ({ frames := 1, cells := 0, slots := 0, locals := 24 } : Room)).room s m ([.ref (ad 3), .ref (ad 23), .long a1, .ref (ad 8)] : List Value).toArray below meth c H locs 0 0 Q (F0 m 3 ls []) := by
    intro n
    induction n with
    | zero =>
      intro i hi hq H locs ls hP hD hS hl
      refine lv_iload hx hb de_B_read_3 (lv_at hl 4 rfl) ?_
      refine lv_aload_n hx hb de_B_read_5 rfl (lv_at hl 0 rfl) ?_
      refine va_get (D := (dC, dI)) (ci := 3) (v := .int (nI (t.2.2.2 2))) (C := "StabilitySums$Table") (T := TB_B) (N := 4) hx hb hts ui_B hown hK hP 3 rfl rfl 3 (by decide) (hts _ uw_134) (fun _ h9 => h9) rfl de_B_read_6 ?_
      refine lv_icmp_ge (tgt := 30) hx hb de_B_read_9 (by decide) (fun c_1 => ?_) (fun c_1 => ?_)
      · skip
        have c_1 : (t.2.2.2 2) ≤ i := (nI_leI (a := (t.2.2.2 2)) (b := i) (by omega) (by omega)).mp c_1
        have hi9 : i = x_abv t a1 (t.2.2.2 2) 0 := by rw [← hq]; first | rfl | (rw [x_abv, if_pos c_1])
        refine lv_aload_n hx hb de_B_read_30 rfl (lv_at hl 0 rfl) ?_
        refine va_get (D := (dC, dI)) (ci := 3) (v := .int (nI (t.2.2.2 2))) (C := "StabilitySums$Table") (T := TB_B) (N := 4) hx hb hts ui_B hown hK hP 3 rfl rfl 3 (by decide) (hts _ uw_134) (fun _ h9 => h9) rfl de_B_read_31 ?_
        refine lv_if_ne (tgt := 47) hx hb de_B_read_34 (by decide) (fun c_2 => ?_) (fun c_2 => ?_)
        · skip
          have c_2 : ¬ (t.2.2.2 2) = 0 := fun z => c_2 ((nz0 (by omega)).mpr z)
          refine lv_iload hx hb de_B_read_47 (lv_at hl 4 rfl) ?_
          refine lv_if_ne (tgt := 64) hx hb de_B_read_49 (by decide) (fun c_3 => ?_) (fun c_3 => ?_)
          · skip
            have c_3 : ¬ i = 0 := fun z => c_3 ((nz0 (by omega)).mpr z)
            refine lv_iload hx hb de_B_read_64 (lv_at hl 4 rfl) ?_
            refine lv_aload_n hx hb de_B_read_66 rfl (lv_at hl 0 rfl) ?_
            refine va_get (D := (dC, dI)) (ci := 3) (v := .int (nI (t.2.2.2 2))) (C := "StabilitySums$Table") (T := TB_B) (N := 4) hx hb hts ui_B hown hK hP 3 rfl rfl 3 (by decide) (hts _ uw_134) (fun _ h9 => h9) rfl de_B_read_67 ?_
            refine lv_icmp_ne (tgt := 90) hx hb de_B_read_70 (by decide) (fun c_4 => ?_) (fun c_4 => ?_)
            · skip
              have c_4 : ¬ (i = (t.2.2.2 2)) := fun z => c_4 ((nI_eq (a := i) (b := (t.2.2.2 2)) (by omega) (by omega)).mpr z)
              refine lv_aload_n hx hb de_B_read_90 rfl (lv_at hl 0 rfl) ?_
              refine va_get (D := (dC, dI)) (ci := 3) (v := .ref (ad 21)) (C := "StabilitySums$Table") (T := TB_B) (N := 4) hx hb hts ui_B hown hK hP 3 rfl rfl 0 (by decide) (hts _ uw_129) (fun _ h9 => h9) rfl de_B_read_91 ?_
              refine lv_iload hx hb de_B_read_94 (lv_at hl 4 rfl) ?_
              refine rw_lald (f := t.1 12) (j := i) hx hb hK hP 21 0 rfl rfl (by omega) (by decide) de_B_read_96 ?_
              refine lv_aload_n hx hb de_B_read_97 rfl (lv_at hl 0 rfl) ?_
              refine va_get (D := (dC, dI)) (ci := 3) (v := .ref (ad 21)) (C := "StabilitySums$Table") (T := TB_B) (N := 4) hx hb hts ui_B hown hK hP 3 rfl rfl 0 (by decide) (hts _ uw_129) (fun _ h9 => h9) rfl de_B_read_98 ?_
              refine lv_iload hx hb de_B_read_101 (lv_at hl 4 rfl) ?_
              refine lv_iconst (v := 1) hx hb de_B_read_103 (by decide) ?_
              refine lv_isub hx hb de_B_read_104 ?_
              refine lv_topi (fun v_5 ev_5 => ?_)
              have ev_5 : v_5 = (nI (i - 1)) := ev_5.trans (pk_sub (a := i) (b := 1) (by omega))
              subst ev_5
              refine rw_lald (f := t.1 12) (j := (i - 1)) hx hb hK hP 21 0 rfl rfl (by omega) (by decide) de_B_read_105 ?_
              refine lv_lsub hx hb de_B_read_106 ?_
              refine lv_topl (fun v_6 ev_6 => ?_)
              have ev_6 : v_6 = (t.1 12 i) - (t.1 12 (i - 1)) := ev_6
              refine lv_lstore (lv' := [(6, .long v_6), (0, .ref (ad 3)), (1, .ref (ad 23)), (2, .long a1), (4, .ref (ad 8)), (5, .int (nI i))]) hx hb de_B_read_107 hl (by decide) rfl (fun ls hl => ?_)
              refine lv_lload_n hx hb de_B_read_109 rfl (lv_at hl 3 rfl) ?_
              refine lv_aload_n hx hb de_B_read_110 rfl (lv_at hl 1 rfl) ?_
              refine va_get (D := (dC, dI)) (ci := 3) (v := .ref (ad 21)) (C := "StabilitySums$Table") (T := TB_B) (N := 4) hx hb hts ui_B hown hK hP 3 rfl rfl 0 (by decide) (hts _ uw_129) (fun _ h9 => h9) rfl de_B_read_111 ?_
              refine lv_iload hx hb de_B_read_114 (lv_at hl 5 rfl) ?_
              refine lv_iconst (v := 1) hx hb de_B_read_116 (by decide) ?_
              refine lv_isub hx hb de_B_read_117 ?_
              refine lv_topi (fun v_7 ev_7 => ?_)
              have ev_7 : v_7 = (nI (i - 1)) := ev_7.trans (pk_sub (a := i) (b := 1) (by omega))
              subst ev_7
              refine rw_lald (f := t.1 12) (j := (i - 1)) hx hb hK hP 21 0 rfl rfl (by omega) (by decide) de_B_read_118 ?_
              refine lv_lsub hx hb de_B_read_119 ?_
              refine lv_topl (fun v_8 ev_8 => ?_)
              have ev_8 : v_8 = a1 - (t.1 12 (i - 1)) := ev_8
              refine lv_lstore (lv' := [(8, .long v_8), (6, .long v_6), (0, .ref (ad 3)), (1, .ref (ad 23)), (2, .long a1), (4, .ref (ad 8)), (5, .int (nI i))]) hx hb de_B_read_120 hl (by decide) rfl (fun ls hl => ?_)
              refine lv_aload_n hx hb de_B_read_122 rfl (lv_at hl 3 rfl) ?_
              refine lv_iload hx hb de_B_read_123 (lv_at hl 6 rfl) ?_
              refine rw_lald (f := t.1 14) (j := i) hx hb hK hP 23 0 rfl rfl (by omega) (by decide) de_B_read_125 ?_
              refine lv_aload_n hx hb de_B_read_126 rfl (lv_at hl 3 rfl) ?_
              refine lv_iload hx hb de_B_read_127 (lv_at hl 6 rfl) ?_
              refine lv_iconst (v := 1) hx hb de_B_read_129 (by decide) ?_
              refine lv_isub hx hb de_B_read_130 ?_
              refine lv_topi (fun v_9 ev_9 => ?_)
              have ev_9 : v_9 = (nI (i - 1)) := ev_9.trans (pk_sub (a := i) (b := 1) (by omega))
              subst ev_9
              refine rw_lald (f := t.1 14) (j := (i - 1)) hx hb hK hP 23 0 rfl rfl (by omega) (by decide) de_B_read_131 ?_
              refine lv_lsub hx hb de_B_read_132 ?_
              refine lv_topl (fun v_10 ev_10 => ?_)
              have ev_10 : v_10 = (t.1 14 i) - (t.1 14 (i - 1)) := ev_10
              refine lv_lstore (lv' := [(10, .long v_10), (8, .long v_8), (6, .long v_6), (0, .ref (ad 3)), (1, .ref (ad 23)), (2, .long a1), (4, .ref (ad 8)), (5, .int (nI i))]) hx hb de_B_read_133 hl (by decide) rfl (fun ls hl => ?_)
              refine lv_aload hx hb de_B_read_135 (lv_at hl 6 rfl) ?_
              refine lv_aload_n hx hb de_B_read_137 rfl (lv_at hl 4 rfl) ?_
              refine lv_iload hx hb de_B_read_138 (lv_at hl 7 rfl) ?_
              refine lv_iconst (v := 1) hx hb de_B_read_140 (by decide) ?_
              refine lv_isub hx hb de_B_read_141 ?_
              refine lv_topi (fun v_11 ev_11 => ?_)
              have ev_11 : v_11 = (nI (i - 1)) := ev_11.trans (pk_sub (a := i) (b := 1) (by omega))
              subst ev_11
              refine rw_lald (f := t.1 14) (j := (i - 1)) hx hb hK hP 23 0 rfl rfl (by omega) (by decide) de_B_read_142 ?_
              refine lv_lload hx hb de_B_read_143 (lv_at hl 2 rfl) ?_
              refine lv_lmul hx hb de_B_read_145 ?_
              refine lv_topl (fun v_12 ev_12 => ?_)
              have ev_12 : v_12 = (t.1 14 (i - 1)) * v_6 := ev_12
              refine lv_lload hx hb de_B_read_146 (lv_at hl 0 rfl) ?_
              refine lv_lload hx hb de_B_read_148 (lv_at hl 1 rfl) ?_
              refine lv_lmul hx hb de_B_read_150 ?_
              refine lv_topl (fun v_13 ev_13 => ?_)
              have ev_13 : v_13 = v_10 * v_8 := ev_13
              refine lv_ladd hx hb de_B_read_151 ?_
              refine lv_topl (fun v_14 ev_14 => ?_)
              have ev_14 : v_14 = v_12 + v_13 := ev_14
              refine lv_lload hx hb de_B_read_152 (lv_at hl 2 rfl) ?_
              refine cl_Vv (As := [.long v_14, .long v_6]) (rest := []) ⟨hx, hb, hml, hown, hts⟩ (mt_F_put l dC dI ad T t v_14 v_6) (cwV 2 hts (uw_V uw_384 uw_377 uw_378 uw_35 uw_379) rfl rfl rfl (by decide +kernel) ⟨Nat.le_of_ble_eq_true rfl, Nat.le_of_ble_eq_true rfl⟩) (va_recv hK hP (ci := 8) (q0 := 8) rfl rfl) rfl hl.1 rfl (by decide) de_B_read_154 ⟨Nat.zero_le _, Nat.zero_le _⟩ hK hN hP hD hS hA (fun _ H locs hw_15 hP hD hS => ?_)
              obtain ⟨t_16, et_16⟩ : ∃ z, z = x_put v_14 v_6 t := ⟨_, rfl⟩
              have hP : va_P (dC, dI) CLS (wS ad T t_16) H := by rw [et_16]; exact hP
              have hD : va_D A (wS ad T t_16) := by rw [et_16]; exact hD
              obtain ⟨_, _, _, _, _, _⟩ : N6p t_16 t := by rw [et_16]; exact nsix (x_put_N _ _ _)
              have hfin : t_16 = x_read 14 a1 t := by
                subst_vars; unfold x_read; simp only [c_1, c_2, c_3, c_4, ↓reduceIte]
              rw [hfin] at hP hD
              subst hQ
              exact W.vret hx hb hr (fun t9 ht hW => ⟨⟨(), rfl, trivial, by rw [ht]; exact hP, va_K.moved hW.alike hK, hD⟩, hS.F ht⟩) hS.2.2 de_B_read_157
            · skip
              have c_4 : i = (t.2.2.2 2) := (nI_eq (a := i) (b := (t.2.2.2 2)) (by omega) (by omega)).mp c_4
              refine lv_aload hx hb de_B_read_73 (lv_at hl 3 rfl) ?_
              refine lv_aload_n hx hb de_B_read_75 rfl (lv_at hl 1 rfl) ?_
              refine lv_aload_n hx hb de_B_read_76 rfl (lv_at hl 0 rfl) ?_
              refine va_get (D := (dC, dI)) (ci := 3) (v := .int (nI (t.2.2.2 2))) (C := "StabilitySums$Table") (T := TB_B) (N := 4) hx hb hts ui_B hown hK hP 3 rfl rfl 3 (by decide) (hts _ uw_134) (fun _ h9 => h9) rfl de_B_read_77 ?_
              refine lv_iconst (v := 1) hx hb de_B_read_80 (by decide) ?_
              refine lv_isub hx hb de_B_read_81 ?_
              refine lv_topi (fun v_17 ev_17 => ?_)
              have ev_17 : v_17 = (nI ((t.2.2.2 2) - 1)) := ev_17.trans (pk_sub (a := (t.2.2.2 2)) (b := 1) (by omega))
              subst ev_17
              refine rw_lald (f := t.1 14) (j := ((t.2.2.2 2) - 1)) hx hb hK hP 23 0 rfl rfl (by omega) (by decide) de_B_read_82 ?_
              refine lv_lconst (v := 1) hx hb de_B_read_83 (by decide) ?_
              refine cl_Vv (As := [.long (t.1 14 ((t.2.2.2 2) - 1)), .long 1]) (rest := []) ⟨hx, hb, hml, hown, hts⟩ (mt_F_put l dC dI ad T t (t.1 14 ((t.2.2.2 2) - 1)) 1) (cwV 2 hts (uw_V uw_384 uw_377 uw_378 uw_35 uw_379) rfl rfl rfl (by decide +kernel) ⟨Nat.le_of_ble_eq_true rfl, Nat.le_of_ble_eq_true rfl⟩) (va_recv hK hP (ci := 8) (q0 := 8) rfl rfl) rfl hl.1 rfl (by decide) de_B_read_84 ⟨Nat.zero_le _, Nat.zero_le _⟩ hK hN hP hD hS hA (fun _ H locs hw_18 hP hD hS => ?_)
              obtain ⟨t_19, et_19⟩ : ∃ z, z = x_put (t.1 14 ((t.2.2.2 2) - 1)) 1 t := ⟨_, rfl⟩
              have hP : va_P (dC, dI) CLS (wS ad T t_19) H := by rw [et_19]; exact hP
              have hD : va_D A (wS ad T t_19) := by rw [et_19]; exact hD
              obtain ⟨_, _, _, _, _, _⟩ : N6p t_19 t := by rw [et_19]; exact nsix (x_put_N _ _ _)
              refine lv_goto (tgt := 157) hx hb de_B_read_87 (by decide) ?_
              have hfin : t_19 = x_read 14 a1 t := by
                subst_vars; unfold x_read; simp only [c_1, c_2, c_3, c_4, ↓reduceIte]
              rw [hfin] at hP hD
              subst hQ
              exact W.vret hx hb hr (fun t9 ht hW => ⟨⟨(), rfl, trivial, by rw [ht]; exact hP, va_K.moved hW.alike hK, hD⟩, hS.F ht⟩) hS.2.2 de_B_read_157
          · skip
            have c_3 : i = 0 := (nz0 (by omega)).mp c_3
            refine lv_aload hx hb de_B_read_52 (lv_at hl 3 rfl) ?_
            refine lv_aload_n hx hb de_B_read_54 rfl (lv_at hl 1 rfl) ?_
            refine lv_iconst (v := 0) hx hb de_B_read_55 (by decide) ?_
            refine rw_lald (f := t.1 14) (j := 0) hx hb hK hP 23 0 rfl rfl (by decide) (by decide) de_B_read_56 ?_
            refine lv_lconst (v := 1) hx hb de_B_read_57 (by decide) ?_
            refine cl_Vv (As := [.long (t.1 14 0), .long 1]) (rest := []) ⟨hx, hb, hml, hown, hts⟩ (mt_F_put l dC dI ad T t (t.1 14 0) 1) (cwV 2 hts (uw_V uw_384 uw_377 uw_378 uw_35 uw_379) rfl rfl rfl (by decide +kernel) ⟨Nat.le_of_ble_eq_true rfl, Nat.le_of_ble_eq_true rfl⟩) (va_recv hK hP (ci := 8) (q0 := 8) rfl rfl) rfl hl.1 rfl (by decide) de_B_read_58 ⟨Nat.zero_le _, Nat.zero_le _⟩ hK hN hP hD hS hA (fun _ H locs hw_20 hP hD hS => ?_)
            obtain ⟨t_21, et_21⟩ : ∃ z, z = x_put (t.1 14 0) 1 t := ⟨_, rfl⟩
            have hP : va_P (dC, dI) CLS (wS ad T t_21) H := by rw [et_21]; exact hP
            have hD : va_D A (wS ad T t_21) := by rw [et_21]; exact hD
            obtain ⟨_, _, _, _, _, _⟩ : N6p t_21 t := by rw [et_21]; exact nsix (x_put_N _ _ _)
            refine lv_goto (tgt := 157) hx hb de_B_read_61 (by decide) ?_
            have hfin : t_21 = x_read 14 a1 t := by
              subst_vars; unfold x_read; simp only [c_1, c_2, c_3, ↓reduceIte]
            rw [hfin] at hP hD
            subst hQ
            exact W.vret hx hb hr (fun t9 ht hW => ⟨⟨(), rfl, trivial, by rw [ht]; exact hP, va_K.moved hW.alike hK, hD⟩, hS.F ht⟩) hS.2.2 de_B_read_157
        · skip
          have c_2 : (t.2.2.2 2) = 0 := (nz0 (by omega)).mp c_2
          refine lv_aload hx hb de_B_read_37 (lv_at hl 3 rfl) ?_
          refine lv_lconst (v := 0) hx hb de_B_read_39 (by decide) ?_
          refine lv_lconst (v := 1) hx hb de_B_read_40 (by decide) ?_
          refine cl_Vv (As := [.long 0, .long 1]) (rest := []) ⟨hx, hb, hml, hown, hts⟩ (mt_F_put l dC dI ad T t 0 1) (cwV 2 hts (uw_V uw_384 uw_377 uw_378 uw_35 uw_379) rfl rfl rfl (by decide +kernel) ⟨Nat.le_of_ble_eq_true rfl, Nat.le_of_ble_eq_true rfl⟩) (va_recv hK hP (ci := 8) (q0 := 8) rfl rfl) rfl hl.1 rfl (by decide) de_B_read_41 ⟨Nat.zero_le _, Nat.zero_le _⟩ hK hN hP hD hS hA (fun _ H locs hw_22 hP hD hS => ?_)
          obtain ⟨t_23, et_23⟩ : ∃ z, z = x_put 0 1 t := ⟨_, rfl⟩
          have hP : va_P (dC, dI) CLS (wS ad T t_23) H := by rw [et_23]; exact hP
          have hD : va_D A (wS ad T t_23) := by rw [et_23]; exact hD
          obtain ⟨_, _, _, _, _, _⟩ : N6p t_23 t := by rw [et_23]; exact nsix (x_put_N _ _ _)
          refine lv_goto (tgt := 157) hx hb de_B_read_44 (by decide) ?_
          have hfin : t_23 = x_read 14 a1 t := by
            subst_vars; unfold x_read; simp only [c_1, c_2, ↓reduceIte]
          rw [hfin] at hP hD
          subst hQ
          exact W.vret hx hb hr (fun t9 ht hW => ⟨⟨(), rfl, trivial, by rw [ht]; exact hP, va_K.moved hW.alike hK, hD⟩, hS.F ht⟩) hS.2.2 de_B_read_157
      · skip
        have c_1 : ¬ ((t.2.2.2 2) ≤ i) := fun z => c_1 ((nI_leI (a := (t.2.2.2 2)) (b := i) (by omega) (by omega)).mpr z)
        exfalso; omega
    | succ n ih =>
      intro i hi hq H locs ls hP hD hS hl
      refine lv_iload hx hb de_B_read_3 (lv_at hl 4 rfl) ?_
      refine lv_aload_n hx hb de_B_read_5 rfl (lv_at hl 0 rfl) ?_
      refine va_get (D := (dC, dI)) (ci := 3) (v := .int (nI (t.2.2.2 2))) (C := "StabilitySums$Table") (T := TB_B) (N := 4) hx hb hts ui_B hown hK hP 3 rfl rfl 3 (by decide) (hts _ uw_134) (fun _ h9 => h9) rfl de_B_read_6 ?_
      refine lv_icmp_ge (tgt := 30) hx hb de_B_read_9 (by decide) (fun c_24 => ?_) (fun c_24 => ?_)
      · skip
        have c_24 : (t.2.2.2 2) ≤ i := (nI_leI (a := (t.2.2.2 2)) (b := i) (by omega) (by omega)).mp c_24
        exfalso; omega
      · skip
        have c_24 : ¬ ((t.2.2.2 2) ≤ i) := fun z => c_24 ((nI_leI (a := (t.2.2.2 2)) (b := i) (by omega) (by omega)).mpr z)
        refine lv_aload_n hx hb de_B_read_12 rfl (lv_at hl 0 rfl) ?_
        refine va_get (D := (dC, dI)) (ci := 3) (v := .ref (ad 21)) (C := "StabilitySums$Table") (T := TB_B) (N := 4) hx hb hts ui_B hown hK hP 3 rfl rfl 0 (by decide) (hts _ uw_129) (fun _ h9 => h9) rfl de_B_read_13 ?_
        refine lv_iload hx hb de_B_read_16 (lv_at hl 4 rfl) ?_
        refine rw_lald (f := t.1 12) (j := i) hx hb hK hP 21 0 rfl rfl (by omega) (by decide) de_B_read_18 ?_
        refine lv_lload_n hx hb de_B_read_19 rfl (lv_at hl 2 rfl) ?_
        refine rw_ge (tgt := 30) hx hb de_B_read_20 de_B_read_21 (by decide) (fun c_25 => ?_) (fun c_25 => ?_)
        · skip
          have hi9 : i = x_abv t a1 (t.2.2.2 2) 0 := by rw [← hq]; first | rfl | (rw [x_abv, if_pos c_25])
          refine lv_aload_n hx hb de_B_read_30 rfl (lv_at hl 0 rfl) ?_
          refine va_get (D := (dC, dI)) (ci := 3) (v := .int (nI (t.2.2.2 2))) (C := "StabilitySums$Table") (T := TB_B) (N := 4) hx hb hts ui_B hown hK hP 3 rfl rfl 3 (by decide) (hts _ uw_134) (fun _ h9 => h9) rfl de_B_read_31 ?_
          refine lv_if_ne (tgt := 47) hx hb de_B_read_34 (by decide) (fun c_26 => ?_) (fun c_26 => ?_)
          · skip
            have c_26 : ¬ (t.2.2.2 2) = 0 := fun z => c_26 ((nz0 (by omega)).mpr z)
            refine lv_iload hx hb de_B_read_47 (lv_at hl 4 rfl) ?_
            refine lv_if_ne (tgt := 64) hx hb de_B_read_49 (by decide) (fun c_27 => ?_) (fun c_27 => ?_)
            · skip
              have c_27 : ¬ i = 0 := fun z => c_27 ((nz0 (by omega)).mpr z)
              refine lv_iload hx hb de_B_read_64 (lv_at hl 4 rfl) ?_
              refine lv_aload_n hx hb de_B_read_66 rfl (lv_at hl 0 rfl) ?_
              refine va_get (D := (dC, dI)) (ci := 3) (v := .int (nI (t.2.2.2 2))) (C := "StabilitySums$Table") (T := TB_B) (N := 4) hx hb hts ui_B hown hK hP 3 rfl rfl 3 (by decide) (hts _ uw_134) (fun _ h9 => h9) rfl de_B_read_67 ?_
              refine lv_icmp_ne (tgt := 90) hx hb de_B_read_70 (by decide) (fun c_28 => ?_) (fun c_28 => ?_)
              · skip
                have c_28 : ¬ (i = (t.2.2.2 2)) := fun z => c_28 ((nI_eq (a := i) (b := (t.2.2.2 2)) (by omega) (by omega)).mpr z)
                refine lv_aload_n hx hb de_B_read_90 rfl (lv_at hl 0 rfl) ?_
                refine va_get (D := (dC, dI)) (ci := 3) (v := .ref (ad 21)) (C := "StabilitySums$Table") (T := TB_B) (N := 4) hx hb hts ui_B hown hK hP 3 rfl rfl 0 (by decide) (hts _ uw_129) (fun _ h9 => h9) rfl de_B_read_91 ?_
                refine lv_iload hx hb de_B_read_94 (lv_at hl 4 rfl) ?_
                refine rw_lald (f := t.1 12) (j := i) hx hb hK hP 21 0 rfl rfl (by omega) (by decide) de_B_read_96 ?_
                refine lv_aload_n hx hb de_B_read_97 rfl (lv_at hl 0 rfl) ?_
                refine va_get (D := (dC, dI)) (ci := 3) (v := .ref (ad 21)) (C := "StabilitySums$Table") (T := TB_B) (N := 4) hx hb hts ui_B hown hK hP 3 rfl rfl 0 (by decide) (hts _ uw_129) (fun _ h9 => h9) rfl de_B_read_98 ?_
                refine lv_iload hx hb de_B_read_101 (lv_at hl 4 rfl) ?_
                refine lv_iconst (v := 1) hx hb de_B_read_103 (by decide) ?_
                refine lv_isub hx hb de_B_read_104 ?_
                refine lv_topi (fun v_29 ev_29 => ?_)
                have ev_29 : v_29 = (nI (i - 1)) := ev_29.trans (pk_sub (a := i) (b := 1) (by omega))
                subst ev_29
                refine rw_lald (f := t.1 12) (j := (i - 1)) hx hb hK hP 21 0 rfl rfl (by omega) (by decide) de_B_read_105 ?_
                refine lv_lsub hx hb de_B_read_106 ?_
                refine lv_topl (fun v_30 ev_30 => ?_)
                have ev_30 : v_30 = (t.1 12 i) - (t.1 12 (i - 1)) := ev_30
                refine lv_lstore (lv' := [(6, .long v_30), (0, .ref (ad 3)), (1, .ref (ad 23)), (2, .long a1), (4, .ref (ad 8)), (5, .int (nI i))]) hx hb de_B_read_107 hl (by decide) rfl (fun ls hl => ?_)
                refine lv_lload_n hx hb de_B_read_109 rfl (lv_at hl 3 rfl) ?_
                refine lv_aload_n hx hb de_B_read_110 rfl (lv_at hl 1 rfl) ?_
                refine va_get (D := (dC, dI)) (ci := 3) (v := .ref (ad 21)) (C := "StabilitySums$Table") (T := TB_B) (N := 4) hx hb hts ui_B hown hK hP 3 rfl rfl 0 (by decide) (hts _ uw_129) (fun _ h9 => h9) rfl de_B_read_111 ?_
                refine lv_iload hx hb de_B_read_114 (lv_at hl 5 rfl) ?_
                refine lv_iconst (v := 1) hx hb de_B_read_116 (by decide) ?_
                refine lv_isub hx hb de_B_read_117 ?_
                refine lv_topi (fun v_31 ev_31 => ?_)
                have ev_31 : v_31 = (nI (i - 1)) := ev_31.trans (pk_sub (a := i) (b := 1) (by omega))
                subst ev_31
                refine rw_lald (f := t.1 12) (j := (i - 1)) hx hb hK hP 21 0 rfl rfl (by omega) (by decide) de_B_read_118 ?_
                refine lv_lsub hx hb de_B_read_119 ?_
                refine lv_topl (fun v_32 ev_32 => ?_)
                have ev_32 : v_32 = a1 - (t.1 12 (i - 1)) := ev_32
                refine lv_lstore (lv' := [(8, .long v_32), (6, .long v_30), (0, .ref (ad 3)), (1, .ref (ad 23)), (2, .long a1), (4, .ref (ad 8)), (5, .int (nI i))]) hx hb de_B_read_120 hl (by decide) rfl (fun ls hl => ?_)
                refine lv_aload_n hx hb de_B_read_122 rfl (lv_at hl 3 rfl) ?_
                refine lv_iload hx hb de_B_read_123 (lv_at hl 6 rfl) ?_
                refine rw_lald (f := t.1 14) (j := i) hx hb hK hP 23 0 rfl rfl (by omega) (by decide) de_B_read_125 ?_
                refine lv_aload_n hx hb de_B_read_126 rfl (lv_at hl 3 rfl) ?_
                refine lv_iload hx hb de_B_read_127 (lv_at hl 6 rfl) ?_
                refine lv_iconst (v := 1) hx hb de_B_read_129 (by decide) ?_
                refine lv_isub hx hb de_B_read_130 ?_
                refine lv_topi (fun v_33 ev_33 => ?_)
                have ev_33 : v_33 = (nI (i - 1)) := ev_33.trans (pk_sub (a := i) (b := 1) (by omega))
                subst ev_33
                refine rw_lald (f := t.1 14) (j := (i - 1)) hx hb hK hP 23 0 rfl rfl (by omega) (by decide) de_B_read_131 ?_
                refine lv_lsub hx hb de_B_read_132 ?_
                refine lv_topl (fun v_34 ev_34 => ?_)
                have ev_34 : v_34 = (t.1 14 i) - (t.1 14 (i - 1)) := ev_34
                refine lv_lstore (lv' := [(10, .long v_34), (8, .long v_32), (6, .long v_30), (0, .ref (ad 3)), (1, .ref (ad 23)), (2, .long a1), (4, .ref (ad 8)), (5, .int (nI i))]) hx hb de_B_read_133 hl (by decide) rfl (fun ls hl => ?_)
                refine lv_aload hx hb de_B_read_135 (lv_at hl 6 rfl) ?_
                refine lv_aload_n hx hb de_B_read_137 rfl (lv_at hl 4 rfl) ?_
                refine lv_iload hx hb de_B_read_138 (lv_at hl 7 rfl) ?_
                refine lv_iconst (v := 1) hx hb de_B_read_140 (by decide) ?_
                refine lv_isub hx hb de_B_read_141 ?_
                refine lv_topi (fun v_35 ev_35 => ?_)
                have ev_35 : v_35 = (nI (i - 1)) := ev_35.trans (pk_sub (a := i) (b := 1) (by omega))
                subst ev_35
                refine rw_lald (f := t.1 14) (j := (i - 1)) hx hb hK hP 23 0 rfl rfl (by omega) (by decide) de_B_read_142 ?_
                refine lv_lload hx hb de_B_read_143 (lv_at hl 2 rfl) ?_
                refine lv_lmul hx hb de_B_read_145 ?_
                refine lv_topl (fun v_36 ev_36 => ?_)
                have ev_36 : v_36 = (t.1 14 (i - 1)) * v_30 := ev_36
                refine lv_lload hx hb de_B_read_146 (lv_at hl 0 rfl) ?_
                refine lv_lload hx hb de_B_read_148 (lv_at hl 1 rfl) ?_
                refine lv_lmul hx hb de_B_read_150 ?_
                refine lv_topl (fun v_37 ev_37 => ?_)
                have ev_37 : v_37 = v_34 * v_32 := ev_37
                refine lv_ladd hx hb de_B_read_151 ?_
                refine lv_topl (fun v_38 ev_38 => ?_)
                have ev_38 : v_38 = v_36 + v_37 := ev_38
                refine lv_lload hx hb de_B_read_152 (lv_at hl 2 rfl) ?_
                refine cl_Vv (As := [.long v_38, .long v_30]) (rest := []) ⟨hx, hb, hml, hown, hts⟩ (mt_F_put l dC dI ad T t v_38 v_30) (cwV 2 hts (uw_V uw_384 uw_377 uw_378 uw_35 uw_379) rfl rfl rfl (by decide +kernel) ⟨Nat.le_of_ble_eq_true rfl, Nat.le_of_ble_eq_true rfl⟩) (va_recv hK hP (ci := 8) (q0 := 8) rfl rfl) rfl hl.1 rfl (by decide) de_B_read_154 ⟨Nat.zero_le _, Nat.zero_le _⟩ hK hN hP hD hS hA (fun _ H locs hw_39 hP hD hS => ?_)
                obtain ⟨t_40, et_40⟩ : ∃ z, z = x_put v_38 v_30 t := ⟨_, rfl⟩
                have hP : va_P (dC, dI) CLS (wS ad T t_40) H := by rw [et_40]; exact hP
                have hD : va_D A (wS ad T t_40) := by rw [et_40]; exact hD
                obtain ⟨_, _, _, _, _, _⟩ : N6p t_40 t := by rw [et_40]; exact nsix (x_put_N _ _ _)
                have hfin : t_40 = x_read 14 a1 t := by
                  subst_vars; unfold x_read; simp only [c_24, c_25, c_26, c_27, c_28, ↓reduceIte]
                rw [hfin] at hP hD
                subst hQ
                exact W.vret hx hb hr (fun t9 ht hW => ⟨⟨(), rfl, trivial, by rw [ht]; exact hP, va_K.moved hW.alike hK, hD⟩, hS.F ht⟩) hS.2.2 de_B_read_157
              · skip
                have c_28 : i = (t.2.2.2 2) := (nI_eq (a := i) (b := (t.2.2.2 2)) (by omega) (by omega)).mp c_28
                refine lv_aload hx hb de_B_read_73 (lv_at hl 3 rfl) ?_
                refine lv_aload_n hx hb de_B_read_75 rfl (lv_at hl 1 rfl) ?_
                refine lv_aload_n hx hb de_B_read_76 rfl (lv_at hl 0 rfl) ?_
                refine va_get (D := (dC, dI)) (ci := 3) (v := .int (nI (t.2.2.2 2))) (C := "StabilitySums$Table") (T := TB_B) (N := 4) hx hb hts ui_B hown hK hP 3 rfl rfl 3 (by decide) (hts _ uw_134) (fun _ h9 => h9) rfl de_B_read_77 ?_
                refine lv_iconst (v := 1) hx hb de_B_read_80 (by decide) ?_
                refine lv_isub hx hb de_B_read_81 ?_
                refine lv_topi (fun v_41 ev_41 => ?_)
                have ev_41 : v_41 = (nI ((t.2.2.2 2) - 1)) := ev_41.trans (pk_sub (a := (t.2.2.2 2)) (b := 1) (by omega))
                subst ev_41
                refine rw_lald (f := t.1 14) (j := ((t.2.2.2 2) - 1)) hx hb hK hP 23 0 rfl rfl (by omega) (by decide) de_B_read_82 ?_
                refine lv_lconst (v := 1) hx hb de_B_read_83 (by decide) ?_
                refine cl_Vv (As := [.long (t.1 14 ((t.2.2.2 2) - 1)), .long 1]) (rest := []) ⟨hx, hb, hml, hown, hts⟩ (mt_F_put l dC dI ad T t (t.1 14 ((t.2.2.2 2) - 1)) 1) (cwV 2 hts (uw_V uw_384 uw_377 uw_378 uw_35 uw_379) rfl rfl rfl (by decide +kernel) ⟨Nat.le_of_ble_eq_true rfl, Nat.le_of_ble_eq_true rfl⟩) (va_recv hK hP (ci := 8) (q0 := 8) rfl rfl) rfl hl.1 rfl (by decide) de_B_read_84 ⟨Nat.zero_le _, Nat.zero_le _⟩ hK hN hP hD hS hA (fun _ H locs hw_42 hP hD hS => ?_)
                obtain ⟨t_43, et_43⟩ : ∃ z, z = x_put (t.1 14 ((t.2.2.2 2) - 1)) 1 t := ⟨_, rfl⟩
                have hP : va_P (dC, dI) CLS (wS ad T t_43) H := by rw [et_43]; exact hP
                have hD : va_D A (wS ad T t_43) := by rw [et_43]; exact hD
                obtain ⟨_, _, _, _, _, _⟩ : N6p t_43 t := by rw [et_43]; exact nsix (x_put_N _ _ _)
                refine lv_goto (tgt := 157) hx hb de_B_read_87 (by decide) ?_
                have hfin : t_43 = x_read 14 a1 t := by
                  subst_vars; unfold x_read; simp only [c_24, c_25, c_26, c_27, c_28, ↓reduceIte]
                rw [hfin] at hP hD
                subst hQ
                exact W.vret hx hb hr (fun t9 ht hW => ⟨⟨(), rfl, trivial, by rw [ht]; exact hP, va_K.moved hW.alike hK, hD⟩, hS.F ht⟩) hS.2.2 de_B_read_157
            · skip
              have c_27 : i = 0 := (nz0 (by omega)).mp c_27
              refine lv_aload hx hb de_B_read_52 (lv_at hl 3 rfl) ?_
              refine lv_aload_n hx hb de_B_read_54 rfl (lv_at hl 1 rfl) ?_
              refine lv_iconst (v := 0) hx hb de_B_read_55 (by decide) ?_
              refine rw_lald (f := t.1 14) (j := 0) hx hb hK hP 23 0 rfl rfl (by decide) (by decide) de_B_read_56 ?_
              refine lv_lconst (v := 1) hx hb de_B_read_57 (by decide) ?_
              refine cl_Vv (As := [.long (t.1 14 0), .long 1]) (rest := []) ⟨hx, hb, hml, hown, hts⟩ (mt_F_put l dC dI ad T t (t.1 14 0) 1) (cwV 2 hts (uw_V uw_384 uw_377 uw_378 uw_35 uw_379) rfl rfl rfl (by decide +kernel) ⟨Nat.le_of_ble_eq_true rfl, Nat.le_of_ble_eq_true rfl⟩) (va_recv hK hP (ci := 8) (q0 := 8) rfl rfl) rfl hl.1 rfl (by decide) de_B_read_58 ⟨Nat.zero_le _, Nat.zero_le _⟩ hK hN hP hD hS hA (fun _ H locs hw_44 hP hD hS => ?_)
              obtain ⟨t_45, et_45⟩ : ∃ z, z = x_put (t.1 14 0) 1 t := ⟨_, rfl⟩
              have hP : va_P (dC, dI) CLS (wS ad T t_45) H := by rw [et_45]; exact hP
              have hD : va_D A (wS ad T t_45) := by rw [et_45]; exact hD
              obtain ⟨_, _, _, _, _, _⟩ : N6p t_45 t := by rw [et_45]; exact nsix (x_put_N _ _ _)
              refine lv_goto (tgt := 157) hx hb de_B_read_61 (by decide) ?_
              have hfin : t_45 = x_read 14 a1 t := by
                subst_vars; unfold x_read; simp only [c_24, c_25, c_26, c_27, ↓reduceIte]
              rw [hfin] at hP hD
              subst hQ
              exact W.vret hx hb hr (fun t9 ht hW => ⟨⟨(), rfl, trivial, by rw [ht]; exact hP, va_K.moved hW.alike hK, hD⟩, hS.F ht⟩) hS.2.2 de_B_read_157
          · skip
            have c_26 : (t.2.2.2 2) = 0 := (nz0 (by omega)).mp c_26
            refine lv_aload hx hb de_B_read_37 (lv_at hl 3 rfl) ?_
            refine lv_lconst (v := 0) hx hb de_B_read_39 (by decide) ?_
            refine lv_lconst (v := 1) hx hb de_B_read_40 (by decide) ?_
            refine cl_Vv (As := [.long 0, .long 1]) (rest := []) ⟨hx, hb, hml, hown, hts⟩ (mt_F_put l dC dI ad T t 0 1) (cwV 2 hts (uw_V uw_384 uw_377 uw_378 uw_35 uw_379) rfl rfl rfl (by decide +kernel) ⟨Nat.le_of_ble_eq_true rfl, Nat.le_of_ble_eq_true rfl⟩) (va_recv hK hP (ci := 8) (q0 := 8) rfl rfl) rfl hl.1 rfl (by decide) de_B_read_41 ⟨Nat.zero_le _, Nat.zero_le _⟩ hK hN hP hD hS hA (fun _ H locs hw_46 hP hD hS => ?_)
            obtain ⟨t_47, et_47⟩ : ∃ z, z = x_put 0 1 t := ⟨_, rfl⟩
            have hP : va_P (dC, dI) CLS (wS ad T t_47) H := by rw [et_47]; exact hP
            have hD : va_D A (wS ad T t_47) := by rw [et_47]; exact hD
            obtain ⟨_, _, _, _, _, _⟩ : N6p t_47 t := by rw [et_47]; exact nsix (x_put_N _ _ _)
            refine lv_goto (tgt := 157) hx hb de_B_read_44 (by decide) ?_
            have hfin : t_47 = x_read 14 a1 t := by
              subst_vars; unfold x_read; simp only [c_24, c_25, c_26, ↓reduceIte]
            rw [hfin] at hP hD
            subst hQ
            exact W.vret hx hb hr (fun t9 ht hW => ⟨⟨(), rfl, trivial, by rw [ht]; exact hP, va_K.moved hW.alike hK, hD⟩, hS.F ht⟩) hS.2.2 de_B_read_157
        · skip
          refine lv_iinc (v := (nI (i + 1))) (lv' := [(5, .int (nI (i + 1))), (0, .ref (ad 3)), (1, .ref (ad 23)), (2, .long a1), (4, .ref (ad 8))]) hx hb de_B_read_24 hl (k := 4) rfl (nI_1 i) (by decide) rfl (fun ls hl => ?_)
          refine lv_goto (tgt := 3) hx hb de_B_read_27 (by decide) ?_
          exact ih (i + 1) (by omega) (by rw [← hq, x_abv, if_neg c_25]) H locs ls hP hD hS (lv_sub hl [1, 2, 3, 4, 0] rfl)
  exact loop_3 (t.2.2.2 2) 0 (by omega) rfl _ _ ls hP hD hS (lv_sub hl [1, 2, 3, 4, 0] rfl)
set_option maxHeartbeats 4000000 in
set_option maxRecDepth 100000 in
theorem mt_L_allows (l : Launch) (dC : Nat → ClassId) (dI : Nat → Nat → Nat) (ad : Nat → Nat) (T : Nat → ClassId) (t : St) (i : Nat) (a1 : Int64) (a2 : Int64) (hi0 : i ≤ 10) (sz : Nat) : Met l yn_L_allows (.code yn_L_allows cd_L_allows 6 (some .boolean) :: UW) ({ frames := 0, cells := 0, slots := 0, locals := 0 } : Room) (va_Pc [.ref (ad 4), .int (nI i), .long a1, .long a2] (Pw (dC, dI) CLS (TY T) (wS ad T t) sz)) (va_Qi (fun (r : Int32) (_ : Unit) => bz r (x_alw t i a1 a2)) (Bw (dC, dI) CLS (TY T) (fun _ : Unit => (wS ad T t)) (va_A (wS ad T t) sz)) (va_A (wS ad T t) sz)) 0 0 (va_A (wS ad T t) sz) := by
  refine Met.ofW (cc := cd_L_allows) (maxL := 6) (ret := (some .boolean)) (by decide) rfl ?_
  intro p e s m args below meth c s₁ B hml hv
  obtain ⟨rfl, hsz, hP, hK, hD0, hN⟩ := hv
  have hx := B.exec
  have hb := B.bytes
  have hr := B.returns
  have hts : ∀ w ∈ UW, w.before _ s = true := fun w h => atoms_spec (ws := .code yn_L_allows cd_L_allows 6 (some .boolean) :: UW) B.pre w (List.mem_cons_of_mem _ h)
  have hown : s.vm.findClass "StabilitySums$Limits" = some m.cls := findClass_of_methodNamed B.named
  have hlocks := B.notSynchronized
  subst hsz
  have hD := hD0.self (sz := s.heap.size)
  generalize hAe : va_A (wS ad T t) s.heap.size = A at hD ⊢
  have hA : ∀ q : Nat, s.heap.size ≤ q → A q := fun q h => by rw [← hAe]; exact Or.inr h
  have hS : va_S A s.heap s.heap [] := va_S.rf
  have hl := lv_entry ([.ref (ad 4), .int (nI i), .long a1, .long a2]) (n := 6) (Nat.le_of_ble_eq_true rfl)
  rw [lg_entry_eq]
  generalize (lg_sl ([.ref (ad 4), .int (nI i), .long a1, .long a2]) ++ List.replicate (6 - (lg_sl ([.ref (ad 4), .int (nI i), .long a1, .long a2])).length) Slot.unset).toArray = ls at hl ⊢
  have hl : lv_has ls 6 [(0, .ref (ad 4)), (1, .int (nI i)), (2, .long a1), (4, .long a2)] := hl
  generalize hQ : MQ below _ _ s 0 0 A = Q
  refine lv_lload_n hx hb de_L_allows_0 rfl (lv_at hl 2 rfl) ?_
  refine lv_aload_n hx hb de_L_allows_1 rfl (lv_at hl 0 rfl) ?_
  refine va_get (D := (dC, dI)) (ci := 4) (v := .ref (ad 25)) (C := "StabilitySums$Limits") (T := TB_L) (N := 4) hx hb hts ui_L hown hK hP 4 rfl rfl 1 (by decide) (hts _ uw_153) (fun _ h9 => h9) rfl de_L_allows_2 ?_
  refine lv_iload_n hx hb de_L_allows_5 rfl (lv_at hl 1 rfl) ?_
  refine rw_lald (f := t.1 15) (j := i) hx hb hK hP 25 0 rfl rfl (by omega) (by decide) de_L_allows_6 ?_
  refine rw_lt (tgt := 27) hx hb de_L_allows_7 de_L_allows_8 (by decide) (fun c_1 => ?_) (fun c_1 => ?_)
  · skip
    refine lv_iconst (v := 0) hx hb de_L_allows_27 (by decide) ?_
    subst hQ
    have hpost : bz 0 (x_alw t i a1 a2) := by
      first | exact Or.inl ⟨rfl, by simp only [x_alw, Int64.lt_iff_toInt_lt, Int64.le_iff_toInt_le] at *; omega⟩ | exact Or.inr ⟨rfl, by simp only [x_alw, Int64.lt_iff_toInt_lt, Int64.le_iff_toInt_le] at *; omega⟩
    exact W.zret (v := 0) hx hb hr (bz_nar hpost) (fun t9 ht hW => ⟨⟨0, (), rfl, hpost, by rw [ht]; exact hP, va_K.moved hW.alike hK, hD⟩, hS.F ht⟩) hS.2.2 de_L_allows_28
  · skip
    refine lv_lload hx hb de_L_allows_11 (lv_at hl 3 rfl) ?_
    refine lv_aload_n hx hb de_L_allows_13 rfl (lv_at hl 0 rfl) ?_
    refine va_get (D := (dC, dI)) (ci := 4) (v := .ref (ad 26)) (C := "StabilitySums$Limits") (T := TB_L) (N := 4) hx hb hts ui_L hown hK hP 4 rfl rfl 2 (by decide) (hts _ uw_154) (fun _ h9 => h9) rfl de_L_allows_14 ?_
    refine lv_iload_n hx hb de_L_allows_17 rfl (lv_at hl 1 rfl) ?_
    refine rw_lald (f := t.1 16) (j := i) hx hb hK hP 26 0 rfl rfl (by omega) (by decide) de_L_allows_18 ?_
    refine rw_gt (tgt := 27) hx hb de_L_allows_19 de_L_allows_20 (by decide) (fun c_2 => ?_) (fun c_2 => ?_)
    · skip
      refine lv_iconst (v := 0) hx hb de_L_allows_27 (by decide) ?_
      subst hQ
      have hpost : bz 0 (x_alw t i a1 a2) := by
        first | exact Or.inl ⟨rfl, by simp only [x_alw, Int64.lt_iff_toInt_lt, Int64.le_iff_toInt_le] at *; omega⟩ | exact Or.inr ⟨rfl, by simp only [x_alw, Int64.lt_iff_toInt_lt, Int64.le_iff_toInt_le] at *; omega⟩
      exact W.zret (v := 0) hx hb hr (bz_nar hpost) (fun t9 ht hW => ⟨⟨0, (), rfl, hpost, by rw [ht]; exact hP, va_K.moved hW.alike hK, hD⟩, hS.F ht⟩) hS.2.2 de_L_allows_28
    · skip
      refine lv_iconst (v := 1) hx hb de_L_allows_23 (by decide) ?_
      refine lv_goto (tgt := 28) hx hb de_L_allows_24 (by decide) ?_
      subst hQ
      have hpost : bz 1 (x_alw t i a1 a2) := by
        first | exact Or.inl ⟨rfl, by simp only [x_alw, Int64.lt_iff_toInt_lt, Int64.le_iff_toInt_le] at *; omega⟩ | exact Or.inr ⟨rfl, by simp only [x_alw, Int64.lt_iff_toInt_lt, Int64.le_iff_toInt_le] at *; omega⟩
      exact W.zret (v := 1) hx hb hr (bz_nar hpost) (fun t9 ht hW => ⟨⟨1, (), rfl, hpost, by rw [ht]; exact hP, va_K.moved hW.alike hK, hD⟩, hS.F ht⟩) hS.2.2 de_L_allows_28
