set_option maxHeartbeats 4000000 in
set_option maxRecDepth 100000 in
theorem mt_M_pump (l : Launch) (dC : Nat → ClassId) (dI : Nat → Nat → Nat) (ad : Nat → Nat) (T : Nat → ClassId) (t : St)  (hI : IvM t) (hz : ∀ (k : Nat) (t' : St), k < 625 → EqB t' t → HZ (y_ic k t').2.2) (sz : Nat) : Met l yn_M_pump (.code yn_M_pump cd_M_pump 12 (some .long) :: UW) ({ frames := 4, cells := 0, slots := 0, locals := 99 } : Room) (va_Pc [.ref (ad 0)] (Pw (dC, dI) CLS (TY T) (wM ad T t) sz)) (va_Ql (fun (r : Int64) (_ : Unit) => r = (y_pump t).1) (Bw (dC, dI) CLS (TY T) (fun _ : Unit => (wM ad T ((y_pump t).2))) (va_A (wM ad T t) sz)) (va_A (wM ad T t) sz)) 0 0 (va_A (wM ad T t) sz) := by
  refine Met.ofW (cc := cd_M_pump) (maxL := 12) (ret := (some .long)) (by decide) rfl ?_
  intro p e s m args below meth c s₁ B hml hv
  obtain ⟨rfl, hsz, hP, hK, hD0, hN⟩ := hv
  have hx := B.exec
  have hb := B.bytes
  have hr := B.returns
  have hts : ∀ w ∈ UW, w.before _ s = true := fun w h => atoms_spec (ws := .code yn_M_pump cd_M_pump 12 (some .long) :: UW) B.pre w (List.mem_cons_of_mem _ h)
  have hown : s.vm.findClass "StabilitySumsModel" = some m.cls := findClass_of_methodNamed B.named
  have hlocks := B.notSynchronized
  subst hsz
  have hD := hD0.self (sz := s.heap.size)
  generalize hAe : va_A (wM ad T t) s.heap.size = A at hD ⊢
  have hA : ∀ q : Nat, s.heap.size ≤ q → A q := fun q h => by rw [← hAe]; exact Or.inr h
  have hS : va_S A s.heap s.heap [] := va_S.rf
  have hl := lv_entry ([.ref (ad 0)]) (n := 12) (Nat.le_of_ble_eq_true rfl)
  rw [lg_entry_eq]
  generalize (lg_sl ([.ref (ad 0)]) ++ List.replicate (12 - (lg_sl ([.ref (ad 0)])).length) Slot.unset).toArray = ls at hl ⊢
  have hl : lv_has ls 12 [(0, .ref (ad 0))] := hl
  generalize hQ : MQ below _ _ s 0 0 A = Q
  obtain ⟨hI1, hI2, hI3, hI4, hI5⟩ := hI
  refine lv_ldc2 (v := (-1)) hx hb hown (hts _ uw_916) de_M_pump_0 ?_
  refine lv_lstore_n (lv' := [(1, .long (-1)), (0, .ref (ad 0))]) hx hb de_M_pump_3 rfl hl (by decide) rfl (fun ls hl => ?_)
  refine lv_iconst (v := 0) hx hb de_M_pump_4 (by decide) ?_
  refine lv_istore_n (lv' := [(3, .int 0), (1, .long (-1)), (0, .ref (ad 0))]) hx hb de_M_pump_5 rfl hl (by decide) rfl (fun ls hl => ?_)
  have loop_6 : ∀ (n : Nat) (k : Nat) (b : Int64) (t1 : St), (k + n = 625) → (EqB t1 t) → (y_pp n k b t1 = y_pump t) → ∀ (H : Heap) (locs : List Loc) (ls : Array Slot), va_P (dC, dI) CLS (wM ad T t1) H → va_D A (wM ad T t1) → va_S A s.heap H locs → lv_has ls 12 [(0, .ref (ad 0)), (1, .long b), (3, .int (nI k))] → W p l e (headSpec (.code yn_M_pump cd_M_pump 12 (some .long) :: UW) ({ frames := 4, cells := 0, slots := 0, locals := 99 } : Room)).room s m ([.ref (ad 0)] : List Value).toArray below meth c H locs 0 0 Q (F0 m 6 ls []) := by
    intro n
    induction n with
    | zero =>
      intro k b t1 hi hk hq H locs ls hP hD hS hl
      obtain ⟨_, _, _, _, _, _⟩ := hk.six
      refine lv_iload_n hx hb de_M_pump_6 rfl (lv_at hl 2 rfl) ?_
      refine lv_sipush (v := 625) hx hb de_M_pump_7 (by decide) ?_
      refine lv_icmp_ge (tgt := 212) hx hb de_M_pump_10 (by decide) (fun c_1 => ?_) (fun c_1 => ?_)
      · skip
        have c_1 : 625 ≤ k := (nI_leI (a := 625) (b := k) (by omega) (by omega)).mp c_1
        refine lv_lload_n hx hb de_M_pump_212 rfl (lv_at hl 1 rfl) ?_
        have hfin : t1 = (y_pump t).2 := by
          rw [← hq]; rfl
        rw [hfin] at hP hD
        subst hQ
        have hpost : (b : Int64) = (y_pump t).1 := by
          rw [← hq]; rfl
        exact W.lret (v := b) hx hb hr (fun t9 ht hW => ⟨⟨b, (), rfl, hpost, by rw [ht]; exact hP, va_K.moved hW.alike hK, hD⟩, hS.F ht⟩) hS.2.2 de_M_pump_213
      · skip
        have c_1 : ¬ (625 ≤ k) := fun z => c_1 ((nI_leI (a := 625) (b := k) (by omega) (by omega)).mpr z)
        exfalso; omega
    | succ n ih =>
      intro k b t1 hi hk hq H locs ls hP hD hS hl
      obtain ⟨_, _, _, _, _, _⟩ := hk.six
      refine lv_iload_n hx hb de_M_pump_6 rfl (lv_at hl 2 rfl) ?_
      refine lv_sipush (v := 625) hx hb de_M_pump_7 (by decide) ?_
      refine lv_icmp_ge (tgt := 212) hx hb de_M_pump_10 (by decide) (fun c_2 => ?_) (fun c_2 => ?_)
      · skip
        have c_2 : 625 ≤ k := (nI_leI (a := 625) (b := k) (by omega) (by omega)).mp c_2
        exfalso; omega
      · skip
        have c_2 : ¬ (625 ≤ k) := fun z => c_2 ((nI_leI (a := 625) (b := k) (by omega) (by omega)).mpr z)
        refine lv_aload_n hx hb de_M_pump_13 rfl (lv_at hl 0 rfl) ?_
        refine cl_Vv (As := []) (rest := []) ⟨hx, hb, hml, hown, hts⟩ (mt_M_present l dC dI ad T t1 (show IvM t1 from (by refine ⟨?_, ?_, ?_, ?_, ?_⟩ <;> omega))) (cwV 0 hts (uw_V uw_804 uw_806 uw_13 uw_36 uw_807) rfl rfl rfl (by decide +kernel) ⟨Nat.le_of_ble_eq_true rfl, Nat.le_of_ble_eq_true rfl⟩) (va_recv hK hP (ci := 9) (q0 := 0) rfl rfl) rfl hl.1 rfl (Nat.le_of_ble_eq_true rfl) de_M_pump_14 ⟨Nat.zero_le _, Nat.zero_le _⟩ hK hN hP hD hS hA (fun _ H locs hw_3 hP hD hS => ?_)
        obtain ⟨t_4, et_4⟩ : ∃ z, z = y_pre t1 := ⟨_, rfl⟩
        have hP : va_P (dC, dI) CLS (wM ad T t_4) H := by rw [et_4]; exact hP
        have hD : va_D A (wM ad T t_4) := by rw [et_4]; exact hD
        obtain ⟨_, _, _, _, _, _⟩ : N6p t_4 t1 := by rw [et_4]; exact y_pre_6 _
        refine lv_lconst (v := 0) hx hb de_M_pump_17 (by decide) ?_
        refine lv_lstore (lv' := [(4, .long 0), (0, .ref (ad 0)), (1, .long b), (3, .int (nI k))]) hx hb de_M_pump_18 hl (by decide) rfl (fun ls hl => ?_)
        refine lv_iconst (v := 1) hx hb de_M_pump_20 (by decide) ?_
        refine lv_istore (lv' := [(6, .int 1), (4, .long 0), (0, .ref (ad 0)), (1, .long b), (3, .int (nI k))]) hx hb de_M_pump_21 hl (by decide) rfl (fun ls hl => ?_)
        refine lv_iload_n hx hb de_M_pump_23 rfl (lv_at hl 4 rfl) ?_
        refine lv_istore (lv' := [(7, .int (nI k)), (6, .int 1), (4, .long 0), (0, .ref (ad 0)), (1, .long b), (3, .int (nI k))]) hx hb de_M_pump_24 hl (by decide) rfl (fun ls hl => ?_)
        refine lv_iconst (v := 3) hx hb de_M_pump_26 (by decide) ?_
        refine lv_istore (lv' := [(8, .int 3), (7, .int (nI k)), (6, .int 1), (4, .long 0), (0, .ref (ad 0)), (1, .long b), (3, .int (nI k))]) hx hb de_M_pump_27 hl (by decide) rfl (fun ls hl => ?_)
        have loop_29 : ∀ (n : Nat) (r : Nat) (q : Nat) (wk : Int64) (t2 : St), (n ≤ 4) → (r < 625) → (q ≤ 1) → (EqB t2 t) → (y_in n r q wk t2 = y_ic k t1) → ∀ (H : Heap) (locs : List Loc) (ls : Array Slot), va_P (dC, dI) CLS (wM ad T t2) H → va_D A (wM ad T t2) → va_S A s.heap H locs → lv_has ls 12 [(0, .ref (ad 0)), (1, .long b), (3, .int (nI k)), (4, .long wk), (6, .int (nI q)), (7, .int (nI r)), (8, .int (nI n - 1))] → W p l e (headSpec (.code yn_M_pump cd_M_pump 12 (some .long) :: UW) ({ frames := 4, cells := 0, slots := 0, locals := 99 } : Room)).room s m ([.ref (ad 0)] : List Value).toArray below meth c H locs 0 0 Q (F0 m 29 ls []) := by
          intro n
          induction n with
          | zero =>
            intro r q wk t2 hn4 hr9 hq1 hk2 hq2 H locs ls hP hD hS hl
            obtain ⟨_, _, _, _, _, _⟩ := hk2.six
            refine lv_iload hx hb de_M_pump_29 (lv_at hl 6 rfl) ?_
            refine lv_if_lt (tgt := 146) hx hb de_M_pump_31 (by decide) (fun c_5 => ?_) (fun c_5 => ?_)
            · skip
              refine lv_iload hx hb de_M_pump_146 (lv_at hl 4 rfl) ?_
              refine lv_if_eq (tgt := 206) hx hb de_M_pump_148 (by decide) (fun c_6 => ?_) (fun c_6 => ?_)
              · skip
                have c_6 : q = 0 := (nz0 (by omega)).mp c_6
                refine lv_iinc (v := (nI (k + 1))) (lv' := [(3, .int (nI (k + 1))), (0, .ref (ad 0)), (1, .long b), (4, .long wk), (6, .int (nI q)), (7, .int (nI r)), (8, .int (nI 0 - 1))]) hx hb de_M_pump_206 hl (k := 2) rfl (nI_1 k) (by decide) rfl (fun ls hl => ?_)
                refine lv_goto (tgt := 6) hx hb de_M_pump_209 (by decide) ?_
                exact ih (k + 1) b t2 (by omega) hk2 (by have h9 : y_ic k t1 = (q, wk, t2) := hq2.symm; rw [← hq, y_pp, h9]; dsimp only; rw [if_pos c_6]) _ _ ls hP hD hS (lv_sub hl [1, 2, 0] rfl)
              · skip
                have c_6 : ¬ q = 0 := fun z => c_6 ((nz0 (by omega)).mpr z)
                refine lv_lload_n hx hb de_M_pump_151 rfl (lv_at hl 1 rfl) ?_
                refine lv_lconst (v := 0) hx hb de_M_pump_152 (by decide) ?_
                refine rw_lt (tgt := 164) hx hb de_M_pump_153 de_M_pump_154 (by decide) (fun c_7 => ?_) (fun c_7 => ?_)
                · skip
                  refine lv_aload_n hx hb de_M_pump_164 rfl (lv_at hl 0 rfl) ?_
                  refine cl_Vi (As := []) (rest := []) ⟨hx, hb, hml, hown, hts⟩ (mt_M_broken0 l dC dI ad T t2 (show IvM t2 from (by refine ⟨?_, ?_, ?_, ?_, ?_⟩ <;> omega)) (by have h9 : y_ic k t1 = (q, wk, t2) := hq2.symm; have h8 := hz k t1 (by omega) hk; rw [h9] at h8; exact h8)) (cwV 0 hts (uw_V uw_900 uw_902 uw_22 uw_36 uw_903) rfl rfl rfl (by decide +kernel) ⟨Nat.le_of_ble_eq_true rfl, Nat.le_of_ble_eq_true rfl⟩) (va_recv hK hP (ci := 9) (q0 := 0) rfl rfl) rfl hl.1 rfl (Nat.le_of_ble_eq_true rfl) de_M_pump_165 ⟨Nat.zero_le _, Nat.zero_le _⟩ hK hN hP hD hS hA (fun r_8 _ H locs hw_8 hP hD hS => ?_)
                  have hw_8 : r_8 = nI (y_bn t2) := hw_8
                  subst hw_8
                  have : y_bn t2 ≤ 0 + t2.2.2.2 4 := y_lb_le _ _ _
                  obtain ⟨t_9, et_9⟩ : ∃ z, z = y_bs t2 := ⟨_, rfl⟩
                  have hP : va_P (dC, dI) CLS (wM ad T t_9) H := by rw [et_9]; exact hP
                  have hD : va_D A (wM ad T t_9) := by rw [et_9]; exact hD
                  obtain ⟨_, _, _, _, _, _⟩ : N6p t_9 t2 := by rw [et_9]; exact nsix (y_lb_N _ _ _)
                  refine lv_if_ne (tgt := 206) hx hb de_M_pump_168 (by decide) (fun c_10 => ?_) (fun c_10 => ?_)
                  · skip
                    have c_10 : ¬ (y_bn t2) = 0 := fun z => c_10 ((nz0 (by omega)).mpr z)
                    refine lv_iinc (v := (nI (k + 1))) (lv' := [(3, .int (nI (k + 1))), (0, .ref (ad 0)), (1, .long b), (4, .long wk), (6, .int (nI q)), (7, .int (nI r)), (8, .int (nI 0 - 1))]) hx hb de_M_pump_206 hl (k := 2) rfl (nI_1 k) (by decide) rfl (fun ls hl => ?_)
                    refine lv_goto (tgt := 6) hx hb de_M_pump_209 (by decide) ?_
                    exact ih (k + 1) b t_9 (by omega) (by rw [et_9]; exact (EqB.lb _ _ _).tr hk2) (by have h9 : y_ic k t1 = (q, wk, t2) := hq2.symm; rw [← hq, y_pp, h9]; dsimp only; rw [if_neg c_6, if_pos (Or.inl c_7), if_neg c_10, et_9]) _ _ ls hP hD hS (lv_sub hl [1, 2, 0] rfl)
                  · skip
                    have c_10 : (y_bn t2) = 0 := (nz0 (by omega)).mp c_10
                    refine lv_lload hx hb de_M_pump_171 (lv_at hl 3 rfl) ?_
                    refine lv_lstore_n (lv' := [(1, .long wk), (0, .ref (ad 0)), (3, .int (nI k)), (4, .long wk), (6, .int (nI q)), (7, .int (nI r)), (8, .int (nI 0 - 1))]) hx hb de_M_pump_173 rfl hl (by decide) rfl (fun ls hl => ?_)
                    refine lv_iconst (v := 0) hx hb de_M_pump_174 (by decide) ?_
                    refine lv_istore (lv' := [(8, .int 0), (1, .long wk), (0, .ref (ad 0)), (3, .int (nI k)), (4, .long wk), (6, .int (nI q)), (7, .int (nI r))]) hx hb de_M_pump_175 hl (by decide) rfl (fun ls hl => ?_)
                    have loop_177 : ∀ (n : Nat) (i : Nat) (t3 : St), (i + n = t.2.2.2 2) → (N6p t3 t_9) → (y_kb n i t3 = y_kb (t_9.2.2.2 2) 0 t_9) → ∀ (H : Heap) (locs : List Loc) (ls : Array Slot), va_P (dC, dI) CLS (wM ad T t3) H → va_D A (wM ad T t3) → va_S A s.heap H locs → lv_has ls 12 [(0, .ref (ad 0)), (1, .long wk), (3, .int (nI k)), (8, .int (nI i))] → W p l e (headSpec (.code yn_M_pump cd_M_pump 12 (some .long) :: UW) ({ frames := 4, cells := 0, slots := 0, locals := 99 } : Room)).room s m ([.ref (ad 0)] : List Value).toArray below meth c H locs 0 0 Q (F0 m 177 ls []) := by
                      intro n
                      induction n with
                      | zero =>
                        intro i t3 hi3 hk3 hq3 H locs ls hP hD hS hl
                        obtain ⟨_, _, _, _, _, _⟩ := id hk3
                        refine lv_iload hx hb de_M_pump_177 (lv_at hl 3 rfl) ?_
                        refine lv_aload_n hx hb de_M_pump_179 rfl (lv_at hl 0 rfl) ?_
                        refine va_get (D := (dC, dI)) (ci := 9) (v := .int (nI (t3.2.2.2 2))) (C := "StabilitySumsModel") (T := TB_M) (N := 33) hx hb hts ui_M hown hK hP 0 rfl rfl 6 (by decide) (hts _ uw_702) (fun _ h9 => h9) rfl de_M_pump_180 ?_
                        refine lv_icmp_ge (tgt := 206) hx hb de_M_pump_183 (by decide) (fun c_11 => ?_) (fun c_11 => ?_)
                        · skip
                          have c_11 : (t3.2.2.2 2) ≤ i := (nI_leI (a := t3.2.2.2 2) (b := i) (by omega) (by omega)).mp c_11
                          refine lv_iinc (v := (nI (k + 1))) (lv' := [(3, .int (nI (k + 1))), (0, .ref (ad 0)), (1, .long wk), (8, .int (nI i))]) hx hb de_M_pump_206 hl (k := 2) rfl (nI_1 k) (by decide) rfl (fun ls hl => ?_)
                          refine lv_goto (tgt := 6) hx hb de_M_pump_209 (by decide) ?_
                          exact ih (k + 1) wk t3 (by omega) (by have hq3' : t3 = _ := hq3; rw [hq3', et_9]; exact (EqB.kb _ _ _).tr ((EqB.lb _ _ _).tr hk2)) (by have h9 : y_ic k t1 = (q, wk, t2) := hq2.symm; rw [← hq, y_pp, h9]; dsimp only; have hq3' : t3 = _ := hq3; rw [if_neg c_6, if_pos (Or.inl c_7), if_pos c_10, ← et_9, ← hq3']) _ _ ls hP hD hS (lv_sub hl [1, 2, 0] rfl)
                        · skip
                          have c_11 : ¬ ((t3.2.2.2 2) ≤ i) := fun z => c_11 ((nI_leI (a := t3.2.2.2 2) (b := i) (by omega) (by omega)).mpr z)
                          exfalso; omega
                      | succ n ih =>
                        intro i t3 hi3 hk3 hq3 H locs ls hP hD hS hl
                        obtain ⟨_, _, _, _, _, _⟩ := id hk3
                        refine lv_iload hx hb de_M_pump_177 (lv_at hl 3 rfl) ?_
                        refine lv_aload_n hx hb de_M_pump_179 rfl (lv_at hl 0 rfl) ?_
                        refine va_get (D := (dC, dI)) (ci := 9) (v := .int (nI (t3.2.2.2 2))) (C := "StabilitySumsModel") (T := TB_M) (N := 33) hx hb hts ui_M hown hK hP 0 rfl rfl 6 (by decide) (hts _ uw_702) (fun _ h9 => h9) rfl de_M_pump_180 ?_
                        refine lv_icmp_ge (tgt := 206) hx hb de_M_pump_183 (by decide) (fun c_12 => ?_) (fun c_12 => ?_)
                        · skip
                          have c_12 : (t3.2.2.2 2) ≤ i := (nI_leI (a := t3.2.2.2 2) (b := i) (by omega) (by omega)).mp c_12
                          exfalso; omega
                        · skip
                          have c_12 : ¬ ((t3.2.2.2 2) ≤ i) := fun z => c_12 ((nI_leI (a := t3.2.2.2 2) (b := i) (by omega) (by omega)).mpr z)
                          refine lv_aload_n hx hb de_M_pump_186 rfl (lv_at hl 0 rfl) ?_
                          refine va_get (D := (dC, dI)) (ci := 9) (v := .ref (ad 13)) (C := "StabilitySumsModel") (T := TB_M) (N := 33) hx hb hts ui_M hown hK hP 0 rfl rfl 15 (by decide) (hts _ uw_711) (fun _ h9 => h9) rfl de_M_pump_187 ?_
                          refine lv_iload hx hb de_M_pump_190 (lv_at hl 3 rfl) ?_
                          refine lv_aload_n hx hb de_M_pump_192 rfl (lv_at hl 0 rfl) ?_
                          refine va_get (D := (dC, dI)) (ci := 9) (v := .ref (ad 12)) (C := "StabilitySumsModel") (T := TB_M) (N := 33) hx hb hts ui_M hown hK hP 0 rfl rfl 14 (by decide) (hts _ uw_710) (fun _ h9 => h9) rfl de_M_pump_193 ?_
                          refine lv_iload hx hb de_M_pump_196 (lv_at hl 3 rfl) ?_
                          refine rw_lald (f := t3.1 11) (j := i) hx hb hK hP 12 0 rfl rfl (by omega) (by decide) de_M_pump_198 ?_
                          refine rw_last (f := t3.1 12) (j := i) (x := (t3.1 11 i)) hx hb hK hP hD hS 13 0 rfl rfl (by omega) (by decide) de_M_pump_199 (fun H locs hP hD hS => ?_)
                          have hP : va_P (dC, dI) CLS (wM ad T (sL t3 12 i (t3.1 11 i))) H := hP
                          have hD : va_D A (wM ad T (sL t3 12 i (t3.1 11 i))) := hD
                          refine lv_iinc (v := (nI (i + 1))) (lv' := [(8, .int (nI (i + 1))), (0, .ref (ad 0)), (1, .long wk), (3, .int (nI k))]) hx hb de_M_pump_200 hl (k := 3) rfl (nI_1 i) (by decide) rfl (fun ls hl => ?_)
                          refine lv_goto (tgt := 177) hx hb de_M_pump_203 (by decide) ?_
                          exact ih (i + 1) (sL t3 12 i (t3.1 11 i)) (by omega) hk3 hq3 H locs ls hP hD hS (lv_sub hl [1, 2, 3, 0] rfl)
                    exact loop_177 (t.2.2.2 2) 0 t_9 (by omega) (nsix rfl) (by congr 1; omega) _ _ ls hP hD hS (lv_sub hl [2, 1, 3, 0] rfl)
                · skip
                  refine lv_lload hx hb de_M_pump_157 (lv_at hl 3 rfl) ?_
                  refine lv_lload_n hx hb de_M_pump_159 rfl (lv_at hl 1 rfl) ?_
                  refine rw_ge (tgt := 206) hx hb de_M_pump_160 de_M_pump_161 (by decide) (fun c_13 => ?_) (fun c_13 => ?_)
                  · skip
                    refine lv_iinc (v := (nI (k + 1))) (lv' := [(3, .int (nI (k + 1))), (0, .ref (ad 0)), (1, .long b), (4, .long wk), (6, .int (nI q)), (7, .int (nI r)), (8, .int (nI 0 - 1))]) hx hb de_M_pump_206 hl (k := 2) rfl (nI_1 k) (by decide) rfl (fun ls hl => ?_)
                    refine lv_goto (tgt := 6) hx hb de_M_pump_209 (by decide) ?_
                    exact ih (k + 1) b t2 (by omega) hk2 (by have h9 : y_ic k t1 = (q, wk, t2) := hq2.symm; rw [← hq, y_pp, h9]; dsimp only; rw [if_neg c_6, if_neg (fun z => z.elim c_7 (fun y => y c_13))]) _ _ ls hP hD hS (lv_sub hl [1, 2, 0] rfl)
                  · skip
                    refine lv_aload_n hx hb de_M_pump_164 rfl (lv_at hl 0 rfl) ?_
                    refine cl_Vi (As := []) (rest := []) ⟨hx, hb, hml, hown, hts⟩ (mt_M_broken0 l dC dI ad T t2 (show IvM t2 from (by refine ⟨?_, ?_, ?_, ?_, ?_⟩ <;> omega)) (by have h9 : y_ic k t1 = (q, wk, t2) := hq2.symm; have h8 := hz k t1 (by omega) hk; rw [h9] at h8; exact h8)) (cwV 0 hts (uw_V uw_900 uw_902 uw_22 uw_36 uw_903) rfl rfl rfl (by decide +kernel) ⟨Nat.le_of_ble_eq_true rfl, Nat.le_of_ble_eq_true rfl⟩) (va_recv hK hP (ci := 9) (q0 := 0) rfl rfl) rfl hl.1 rfl (Nat.le_of_ble_eq_true rfl) de_M_pump_165 ⟨Nat.zero_le _, Nat.zero_le _⟩ hK hN hP hD hS hA (fun r_14 _ H locs hw_14 hP hD hS => ?_)
                    have hw_14 : r_14 = nI (y_bn t2) := hw_14
                    subst hw_14
                    have : y_bn t2 ≤ 0 + t2.2.2.2 4 := y_lb_le _ _ _
                    obtain ⟨t_15, et_15⟩ : ∃ z, z = y_bs t2 := ⟨_, rfl⟩
                    have hP : va_P (dC, dI) CLS (wM ad T t_15) H := by rw [et_15]; exact hP
                    have hD : va_D A (wM ad T t_15) := by rw [et_15]; exact hD
                    obtain ⟨_, _, _, _, _, _⟩ : N6p t_15 t2 := by rw [et_15]; exact nsix (y_lb_N _ _ _)
                    refine lv_if_ne (tgt := 206) hx hb de_M_pump_168 (by decide) (fun c_16 => ?_) (fun c_16 => ?_)
                    · skip
                      have c_16 : ¬ (y_bn t2) = 0 := fun z => c_16 ((nz0 (by omega)).mpr z)
                      refine lv_iinc (v := (nI (k + 1))) (lv' := [(3, .int (nI (k + 1))), (0, .ref (ad 0)), (1, .long b), (4, .long wk), (6, .int (nI q)), (7, .int (nI r)), (8, .int (nI 0 - 1))]) hx hb de_M_pump_206 hl (k := 2) rfl (nI_1 k) (by decide) rfl (fun ls hl => ?_)
                      refine lv_goto (tgt := 6) hx hb de_M_pump_209 (by decide) ?_
                      exact ih (k + 1) b t_15 (by omega) (by rw [et_15]; exact (EqB.lb _ _ _).tr hk2) (by have h9 : y_ic k t1 = (q, wk, t2) := hq2.symm; rw [← hq, y_pp, h9]; dsimp only; rw [if_neg c_6, if_pos (Or.inr c_13), if_neg c_16, et_15]) _ _ ls hP hD hS (lv_sub hl [1, 2, 0] rfl)
                    · skip
                      have c_16 : (y_bn t2) = 0 := (nz0 (by omega)).mp c_16
                      refine lv_lload hx hb de_M_pump_171 (lv_at hl 3 rfl) ?_
                      refine lv_lstore_n (lv' := [(1, .long wk), (0, .ref (ad 0)), (3, .int (nI k)), (4, .long wk), (6, .int (nI q)), (7, .int (nI r)), (8, .int (nI 0 - 1))]) hx hb de_M_pump_173 rfl hl (by decide) rfl (fun ls hl => ?_)
                      refine lv_iconst (v := 0) hx hb de_M_pump_174 (by decide) ?_
                      refine lv_istore (lv' := [(8, .int 0), (1, .long wk), (0, .ref (ad 0)), (3, .int (nI k)), (4, .long wk), (6, .int (nI q)), (7, .int (nI r))]) hx hb de_M_pump_175 hl (by decide) rfl (fun ls hl => ?_)
                      have loop_177 : ∀ (n : Nat) (i : Nat) (t3 : St), (i + n = t.2.2.2 2) → (N6p t3 t_15) → (y_kb n i t3 = y_kb (t_15.2.2.2 2) 0 t_15) → ∀ (H : Heap) (locs : List Loc) (ls : Array Slot), va_P (dC, dI) CLS (wM ad T t3) H → va_D A (wM ad T t3) → va_S A s.heap H locs → lv_has ls 12 [(0, .ref (ad 0)), (1, .long wk), (3, .int (nI k)), (8, .int (nI i))] → W p l e (headSpec (.code yn_M_pump cd_M_pump 12 (some .long) :: UW) ({ frames := 4, cells := 0, slots := 0, locals := 99 } : Room)).room s m ([.ref (ad 0)] : List Value).toArray below meth c H locs 0 0 Q (F0 m 177 ls []) := by
                        intro n
                        induction n with
                        | zero =>
                          intro i t3 hi3 hk3 hq3 H locs ls hP hD hS hl
                          obtain ⟨_, _, _, _, _, _⟩ := id hk3
                          refine lv_iload hx hb de_M_pump_177 (lv_at hl 3 rfl) ?_
                          refine lv_aload_n hx hb de_M_pump_179 rfl (lv_at hl 0 rfl) ?_
                          refine va_get (D := (dC, dI)) (ci := 9) (v := .int (nI (t3.2.2.2 2))) (C := "StabilitySumsModel") (T := TB_M) (N := 33) hx hb hts ui_M hown hK hP 0 rfl rfl 6 (by decide) (hts _ uw_702) (fun _ h9 => h9) rfl de_M_pump_180 ?_
                          refine lv_icmp_ge (tgt := 206) hx hb de_M_pump_183 (by decide) (fun c_17 => ?_) (fun c_17 => ?_)
                          · skip
                            have c_17 : (t3.2.2.2 2) ≤ i := (nI_leI (a := t3.2.2.2 2) (b := i) (by omega) (by omega)).mp c_17
                            refine lv_iinc (v := (nI (k + 1))) (lv' := [(3, .int (nI (k + 1))), (0, .ref (ad 0)), (1, .long wk), (8, .int (nI i))]) hx hb de_M_pump_206 hl (k := 2) rfl (nI_1 k) (by decide) rfl (fun ls hl => ?_)
                            refine lv_goto (tgt := 6) hx hb de_M_pump_209 (by decide) ?_
                            exact ih (k + 1) wk t3 (by omega) (by have hq3' : t3 = _ := hq3; rw [hq3', et_15]; exact (EqB.kb _ _ _).tr ((EqB.lb _ _ _).tr hk2)) (by have h9 : y_ic k t1 = (q, wk, t2) := hq2.symm; rw [← hq, y_pp, h9]; dsimp only; have hq3' : t3 = _ := hq3; rw [if_neg c_6, if_pos (Or.inr c_13), if_pos c_16, ← et_15, ← hq3']) _ _ ls hP hD hS (lv_sub hl [1, 2, 0] rfl)
                          · skip
                            have c_17 : ¬ ((t3.2.2.2 2) ≤ i) := fun z => c_17 ((nI_leI (a := t3.2.2.2 2) (b := i) (by omega) (by omega)).mpr z)
                            exfalso; omega
                        | succ n ih =>
                          intro i t3 hi3 hk3 hq3 H locs ls hP hD hS hl
                          obtain ⟨_, _, _, _, _, _⟩ := id hk3
                          refine lv_iload hx hb de_M_pump_177 (lv_at hl 3 rfl) ?_
                          refine lv_aload_n hx hb de_M_pump_179 rfl (lv_at hl 0 rfl) ?_
                          refine va_get (D := (dC, dI)) (ci := 9) (v := .int (nI (t3.2.2.2 2))) (C := "StabilitySumsModel") (T := TB_M) (N := 33) hx hb hts ui_M hown hK hP 0 rfl rfl 6 (by decide) (hts _ uw_702) (fun _ h9 => h9) rfl de_M_pump_180 ?_
                          refine lv_icmp_ge (tgt := 206) hx hb de_M_pump_183 (by decide) (fun c_18 => ?_) (fun c_18 => ?_)
                          · skip
                            have c_18 : (t3.2.2.2 2) ≤ i := (nI_leI (a := t3.2.2.2 2) (b := i) (by omega) (by omega)).mp c_18
                            exfalso; omega
                          · skip
                            have c_18 : ¬ ((t3.2.2.2 2) ≤ i) := fun z => c_18 ((nI_leI (a := t3.2.2.2 2) (b := i) (by omega) (by omega)).mpr z)
                            refine lv_aload_n hx hb de_M_pump_186 rfl (lv_at hl 0 rfl) ?_
                            refine va_get (D := (dC, dI)) (ci := 9) (v := .ref (ad 13)) (C := "StabilitySumsModel") (T := TB_M) (N := 33) hx hb hts ui_M hown hK hP 0 rfl rfl 15 (by decide) (hts _ uw_711) (fun _ h9 => h9) rfl de_M_pump_187 ?_
                            refine lv_iload hx hb de_M_pump_190 (lv_at hl 3 rfl) ?_
                            refine lv_aload_n hx hb de_M_pump_192 rfl (lv_at hl 0 rfl) ?_
                            refine va_get (D := (dC, dI)) (ci := 9) (v := .ref (ad 12)) (C := "StabilitySumsModel") (T := TB_M) (N := 33) hx hb hts ui_M hown hK hP 0 rfl rfl 14 (by decide) (hts _ uw_710) (fun _ h9 => h9) rfl de_M_pump_193 ?_
                            refine lv_iload hx hb de_M_pump_196 (lv_at hl 3 rfl) ?_
                            refine rw_lald (f := t3.1 11) (j := i) hx hb hK hP 12 0 rfl rfl (by omega) (by decide) de_M_pump_198 ?_
                            refine rw_last (f := t3.1 12) (j := i) (x := (t3.1 11 i)) hx hb hK hP hD hS 13 0 rfl rfl (by omega) (by decide) de_M_pump_199 (fun H locs hP hD hS => ?_)
                            have hP : va_P (dC, dI) CLS (wM ad T (sL t3 12 i (t3.1 11 i))) H := hP
                            have hD : va_D A (wM ad T (sL t3 12 i (t3.1 11 i))) := hD
                            refine lv_iinc (v := (nI (i + 1))) (lv' := [(8, .int (nI (i + 1))), (0, .ref (ad 0)), (1, .long wk), (3, .int (nI k))]) hx hb de_M_pump_200 hl (k := 3) rfl (nI_1 i) (by decide) rfl (fun ls hl => ?_)
                            refine lv_goto (tgt := 177) hx hb de_M_pump_203 (by decide) ?_
                            exact ih (i + 1) (sL t3 12 i (t3.1 11 i)) (by omega) hk3 hq3 H locs ls hP hD hS (lv_sub hl [1, 2, 3, 0] rfl)
                      exact loop_177 (t.2.2.2 2) 0 t_15 (by omega) (nsix rfl) (by congr 1; omega) _ _ ls hP hD hS (lv_sub hl [2, 1, 3, 0] rfl)
            · skip
              first | exact absurd (by decide) c_5 | exact absurd c_5 (nI_pos (by omega))
          | succ n ih =>
            intro r q wk t2 hn4 hr9 hq1 hk2 hq2 H locs ls hP hD hS hl
            obtain ⟨_, _, _, _, _, _⟩ := hk2.six
            have hl : lv_has ls 12 [(0, .ref (ad 0)), (1, .long b), (3, .int (nI k)), (4, .long wk), (6, .int (nI q)), (7, .int (nI r)), (8, .int (nI n))] := by rw [nI_pred] at hl; exact hl
            refine lv_iload hx hb de_M_pump_29 (lv_at hl 6 rfl) ?_
            refine lv_if_lt (tgt := 146) hx hb de_M_pump_31 (by decide) (fun c_19 => ?_) (fun c_19 => ?_)
            · skip
              first | exact absurd (by decide) c_19 | exact absurd c_19 (nI_pos (by omega))
            · skip
              refine lv_iload hx hb de_M_pump_34 (lv_at hl 5 rfl) ?_
              refine lv_iconst (v := 5) hx hb de_M_pump_36 (by decide) ?_
              refine lv_irem hx hb de_M_pump_37 (by decide) ?_
              refine lv_topi (fun v_20 ev_20 => ?_)
              have ev_20 : v_20 = (nI (r % 5)) := ev_20.trans (pk_rem (a := r) (d := 5) (by omega) (by omega) (by omega))
              subst ev_20
              refine lv_istore (lv' := [(9, .int (nI (r % 5))), (0, .ref (ad 0)), (1, .long b), (3, .int (nI k)), (4, .long wk), (6, .int (nI q)), (7, .int (nI r)), (8, .int (nI n))]) hx hb de_M_pump_38 hl (by decide) rfl (fun ls hl => ?_)
              refine lv_iload hx hb de_M_pump_40 (lv_at hl 6 rfl) ?_
              refine lv_iconst (v := 5) hx hb de_M_pump_42 (by decide) ?_
              refine lv_idiv hx hb de_M_pump_43 (by decide) ?_
              refine lv_topi (fun v_21 ev_21 => ?_)
              have ev_21 : v_21 = (nI (r / 5)) := ev_21.trans (pk_div (a := r) (d := 5) (by omega) (by omega) (by omega))
              subst ev_21
              refine lv_istore (lv' := [(7, .int (nI (r / 5))), (9, .int (nI (r % 5))), (0, .ref (ad 0)), (1, .long b), (3, .int (nI k)), (4, .long wk), (6, .int (nI q)), (8, .int (nI n))]) hx hb de_M_pump_44 hl (by decide) rfl (fun ls hl => ?_)
              refine lv_iload hx hb de_M_pump_46 (lv_at hl 6 rfl) ?_
              refine lv_if_eq (tgt := 69) hx hb de_M_pump_48 (by decide) (fun c_22 => ?_) (fun c_22 => ?_)
              · skip
                have c_22 : q = 0 := (nz0 (by omega)).mp c_22
                refine lv_iconst (v := 0) hx hb de_M_pump_69 (by decide) ?_
                refine lv_istore (lv' := [(6, .int 0), (7, .int (nI (r / 5))), (9, .int (nI (r % 5))), (0, .ref (ad 0)), (1, .long b), (3, .int (nI k)), (4, .long wk), (8, .int (nI n))]) hx hb de_M_pump_70 hl (by decide) rfl (fun ls hl => ?_)
                refine lv_iload hx hb de_M_pump_72 (lv_at hl 7 rfl) ?_
                refine lv_aload_n hx hb de_M_pump_74 rfl (lv_at hl 3 rfl) ?_
                refine va_get (D := (dC, dI)) (ci := 9) (v := .int (nI (t2.2.2.2 2))) (C := "StabilitySumsModel") (T := TB_M) (N := 33) hx hb hts ui_M hown hK hP 0 rfl rfl 6 (by decide) (hts _ uw_702) (fun _ h9 => h9) rfl de_M_pump_75 ?_
                refine lv_icmp_ge (tgt := 140) hx hb de_M_pump_78 (by decide) (fun c_23 => ?_) (fun c_23 => ?_)
                · skip
                  have c_23 : (t2.2.2.2 2) ≤ n := (nI_leI (a := t2.2.2.2 2) (b := n) (by omega) (by omega)).mp c_23
                  refine lv_iinc (v := (nI n - 1)) (lv' := [(8, .int (nI n - 1)), (6, .int 0), (7, .int (nI (r / 5))), (9, .int (nI (r % 5))), (0, .ref (ad 0)), (1, .long b), (3, .int (nI k)), (4, .long wk)]) hx hb de_M_pump_140 hl (k := 7) rfl (im1 _) (by decide) rfl (fun ls hl => ?_)
                  refine lv_goto (tgt := 29) hx hb de_M_pump_143 (by decide) ?_
                  exact ih (r / 5) 0 wk t2 (by omega) (by omega) (by omega) hk2 (by rw [← hq2, y_in, if_pos c_22, (if_neg (show ¬ n < t2.2.2.2 2 by omega)), (if_neg (show ¬ n < t2.2.2.2 2 by omega))]) H locs ls hP hD hS (lv_sub hl [4, 5, 6, 7, 1, 2, 0] rfl)
                · skip
                  have c_23 : ¬ ((t2.2.2.2 2) ≤ n) := fun z => c_23 ((nI_leI (a := t2.2.2.2 2) (b := n) (by omega) (by omega)).mpr z)
                  refine lv_aload_n hx hb de_M_pump_81 rfl (lv_at hl 3 rfl) ?_
                  refine va_get (D := (dC, dI)) (ci := 9) (v := .ref (ad 12)) (C := "StabilitySumsModel") (T := TB_M) (N := 33) hx hb hts ui_M hown hK hP 0 rfl rfl 14 (by decide) (hts _ uw_710) (fun _ h9 => h9) rfl de_M_pump_82 ?_
                  refine lv_iload hx hb de_M_pump_85 (lv_at hl 7 rfl) ?_
                  refine lv_aload_n hx hb de_M_pump_87 rfl (lv_at hl 3 rfl) ?_
                  refine va_get (D := (dC, dI)) (ci := 9) (v := .ref (ad 5)) (C := "StabilitySumsModel") (T := TB_M) (N := 33) hx hb hts ui_M hown hK hP 0 rfl rfl 7 (by decide) (hts _ uw_703) (fun _ h9 => h9) rfl de_M_pump_88 ?_
                  refine lv_iload hx hb de_M_pump_91 (lv_at hl 7 rfl) ?_
                  refine rw_lald (f := t2.1 4) (j := n) hx hb hK hP 5 0 rfl rfl (by omega) (by decide) de_M_pump_93 ?_
                  refine lv_ldc2 (v := 4) hx hb hown (hts _ uw_871) de_M_pump_94 ?_
                  refine lv_ldiv hx hb de_M_pump_97 (by decide) ?_
                  refine lv_topl (fun v_24 ev_24 => ?_)
                  have ev_24 : v_24 = (t2.1 4 n) / 4 := ev_24
                  refine lv_iload hx hb de_M_pump_98 (lv_at hl 2 rfl) ?_
                  refine lv_i2l (v := ((nI (r % 5)).toInt64)) hx hb de_M_pump_100 rfl ?_
                  refine lv_lmul hx hb de_M_pump_101 ?_
                  refine lv_topl (fun v_25 ev_25 => ?_)
                  have ev_25 : v_25 = v_24 * ((nI (r % 5)).toInt64) := ev_25
                  refine rw_last (f := t2.1 11) (j := n) (x := v_25) hx hb hK hP hD hS 12 0 rfl rfl (by omega) (by decide) de_M_pump_102 (fun H locs hP hD hS => ?_)
                  have hP : va_P (dC, dI) CLS (wM ad T (sL t2 11 n v_25)) H := hP
                  have hD : va_D A (wM ad T (sL t2 11 n v_25)) := hD
                  refine lv_aload_n hx hb de_M_pump_103 rfl (lv_at hl 3 rfl) ?_
                  refine va_get (D := (dC, dI)) (ci := 9) (v := .ref (ad 12)) (C := "StabilitySumsModel") (T := TB_M) (N := 33) hx hb hts ui_M hown hK hP 0 rfl rfl 14 (by decide) (hts _ uw_710) (fun _ h9 => h9) rfl de_M_pump_104 ?_
                  refine lv_iload hx hb de_M_pump_107 (lv_at hl 7 rfl) ?_
                  refine rw_lald (f := vp_updL (t2.1 11) n v_25) (j := n) hx hb hK hP 12 0 rfl rfl (by omega) (by decide) de_M_pump_109 ?_
                  refine lv_aload_n hx hb de_M_pump_110 rfl (lv_at hl 3 rfl) ?_
                  refine va_get (D := (dC, dI)) (ci := 9) (v := .ref (ad 10)) (C := "StabilitySumsModel") (T := TB_M) (N := 33) hx hb hts ui_M hown hK hP 0 rfl rfl 12 (by decide) (hts _ uw_708) (fun _ h9 => h9) rfl de_M_pump_111 ?_
                  refine lv_iload hx hb de_M_pump_114 (lv_at hl 7 rfl) ?_
                  refine rw_lald (f := t2.1 9) (j := n) hx hb hK hP 10 0 rfl rfl (by omega) (by decide) de_M_pump_116 ?_
                  refine lv_lsub hx hb de_M_pump_117 ?_
                  refine lv_topl (fun v_26 ev_26 => ?_)
                  have ev_26 : v_26 = ((vp_updL (t2.1 11) n v_25) n) - (t2.1 9 n) := ev_26
                  refine lv_lstore (lv' := [(10, .long v_26), (6, .int 0), (7, .int (nI (r / 5))), (9, .int (nI (r % 5))), (0, .ref (ad 0)), (1, .long b), (3, .int (nI k)), (4, .long wk), (8, .int (nI n))]) hx hb de_M_pump_118 hl (by decide) rfl (fun ls hl => ?_)
                  refine lv_lload hx hb de_M_pump_120 (lv_at hl 7 rfl) ?_
                  refine lv_lload hx hb de_M_pump_122 (lv_at hl 0 rfl) ?_
                  refine lv_lconst (v := 0) hx hb de_M_pump_124 (by decide) ?_
                  refine rw_ge (tgt := 135) hx hb de_M_pump_125 de_M_pump_126 (by decide) (fun c_27 => ?_) (fun c_27 => ?_)
                  · skip
                    refine lv_lload hx hb de_M_pump_135 (lv_at hl 0 rfl) ?_
                    refine lv_ladd hx hb de_M_pump_137 ?_
                    refine lv_topl (fun v_28 ev_28 => ?_)
                    have ev_28 : v_28 = wk + v_26 := ev_28
                    refine lv_lstore (lv' := [(4, .long v_28), (10, .long v_26), (6, .int 0), (7, .int (nI (r / 5))), (9, .int (nI (r % 5))), (0, .ref (ad 0)), (1, .long b), (3, .int (nI k)), (8, .int (nI n))]) hx hb de_M_pump_138 hl (by decide) rfl (fun ls hl => ?_)
                    refine lv_iinc (v := (nI n - 1)) (lv' := [(8, .int (nI n - 1)), (4, .long v_28), (10, .long v_26), (6, .int 0), (7, .int (nI (r / 5))), (9, .int (nI (r % 5))), (0, .ref (ad 0)), (1, .long b), (3, .int (nI k))]) hx hb de_M_pump_140 hl (k := 8) rfl (im1 _) (by decide) rfl (fun ls hl => ?_)
                    refine lv_goto (tgt := 29) hx hb de_M_pump_143 (by decide) ?_
                    exact ih (r / 5) 0 v_28 (sL t2 11 n v_25) (by omega) (by omega) (by omega) ((EqB.sL 11 _ _ (Or.inr (Or.inl rfl))).tr hk2) (by have h3 : v_26 = t2.1 4 n / 4 * (nI (r % 5)).toInt64 - t2.1 9 n := (by rw [ev_26, pk_uLs, ev_25, ev_24]); have h4 : y_ab (t2.1 4 n / 4 * (nI (r % 5)).toInt64 - t2.1 9 n) = v_26 := (by rw [← h3, y_ab, if_pos c_27]); rw [← hq2, y_in, if_pos c_22, (if_pos (show n < t2.2.2.2 2 by omega)), (if_pos (show n < t2.2.2.2 2 by omega)), h4, ev_28, ev_25, ev_24]) H locs ls hP hD hS (lv_sub hl [6, 7, 8, 1, 3, 4, 0] rfl)
                  · skip
                    refine lv_lload hx hb de_M_pump_129 (lv_at hl 0 rfl) ?_
                    refine lv_lneg hx hb de_M_pump_131 ?_
                    refine lv_topl (fun v_29 ev_29 => ?_)
                    have ev_29 : v_29 = -v_26 := ev_29
                    refine lv_goto (tgt := 137) hx hb de_M_pump_132 (by decide) ?_
                    refine lv_ladd hx hb de_M_pump_137 ?_
                    refine lv_topl (fun v_30 ev_30 => ?_)
                    have ev_30 : v_30 = wk + v_29 := ev_30
                    refine lv_lstore (lv' := [(4, .long v_30), (10, .long v_26), (6, .int 0), (7, .int (nI (r / 5))), (9, .int (nI (r % 5))), (0, .ref (ad 0)), (1, .long b), (3, .int (nI k)), (8, .int (nI n))]) hx hb de_M_pump_138 hl (by decide) rfl (fun ls hl => ?_)
                    refine lv_iinc (v := (nI n - 1)) (lv' := [(8, .int (nI n - 1)), (4, .long v_30), (10, .long v_26), (6, .int 0), (7, .int (nI (r / 5))), (9, .int (nI (r % 5))), (0, .ref (ad 0)), (1, .long b), (3, .int (nI k))]) hx hb de_M_pump_140 hl (k := 8) rfl (im1 _) (by decide) rfl (fun ls hl => ?_)
                    refine lv_goto (tgt := 29) hx hb de_M_pump_143 (by decide) ?_
                    exact ih (r / 5) 0 v_30 (sL t2 11 n v_25) (by omega) (by omega) (by omega) ((EqB.sL 11 _ _ (Or.inr (Or.inl rfl))).tr hk2) (by have h3 : v_26 = t2.1 4 n / 4 * (nI (r % 5)).toInt64 - t2.1 9 n := (by rw [ev_26, pk_uLs, ev_25, ev_24]); have h4 : y_ab (t2.1 4 n / 4 * (nI (r % 5)).toInt64 - t2.1 9 n) = v_29 := (by rw [← h3, y_ab, if_neg c_27, ev_29]); rw [← hq2, y_in, if_pos c_22, (if_pos (show n < t2.2.2.2 2 by omega)), (if_pos (show n < t2.2.2.2 2 by omega)), h4, ev_30, ev_25, ev_24]) H locs ls hP hD hS (lv_sub hl [6, 7, 8, 1, 3, 4, 0] rfl)
              · skip
                have c_22 : ¬ q = 0 := fun z => c_22 ((nz0 (by omega)).mpr z)
                refine lv_iload hx hb de_M_pump_51 (lv_at hl 7 rfl) ?_
                refine lv_aload_n hx hb de_M_pump_53 rfl (lv_at hl 2 rfl) ?_
                refine va_get (D := (dC, dI)) (ci := 9) (v := .int (nI (t2.2.2.2 2))) (C := "StabilitySumsModel") (T := TB_M) (N := 33) hx hb hts ui_M hown hK hP 0 rfl rfl 6 (by decide) (hts _ uw_702) (fun _ h9 => h9) rfl de_M_pump_54 ?_
                refine lv_icmp_lt (tgt := 65) hx hb de_M_pump_57 (by decide) (fun c_31 => ?_) (fun c_31 => ?_)
                · skip
                  have c_31 : n < (t2.2.2.2 2) := (nI_ltI (a := n) (b := t2.2.2.2 2) (by omega) (by omega)).mp c_31
                  refine lv_iconst (v := 1) hx hb de_M_pump_65 (by decide) ?_
                  refine lv_goto (tgt := 70) hx hb de_M_pump_66 (by decide) ?_
                  refine lv_istore (lv' := [(6, .int 1), (7, .int (nI (r / 5))), (9, .int (nI (r % 5))), (0, .ref (ad 0)), (1, .long b), (3, .int (nI k)), (4, .long wk), (8, .int (nI n))]) hx hb de_M_pump_70 hl (by decide) rfl (fun ls hl => ?_)
                  refine lv_iload hx hb de_M_pump_72 (lv_at hl 7 rfl) ?_
                  refine lv_aload_n hx hb de_M_pump_74 rfl (lv_at hl 3 rfl) ?_
                  refine va_get (D := (dC, dI)) (ci := 9) (v := .int (nI (t2.2.2.2 2))) (C := "StabilitySumsModel") (T := TB_M) (N := 33) hx hb hts ui_M hown hK hP 0 rfl rfl 6 (by decide) (hts _ uw_702) (fun _ h9 => h9) rfl de_M_pump_75 ?_
                  refine lv_icmp_ge (tgt := 140) hx hb de_M_pump_78 (by decide) (fun c_32 => ?_) (fun c_32 => ?_)
                  · skip
                    have c_32 : (t2.2.2.2 2) ≤ n := (nI_leI (a := t2.2.2.2 2) (b := n) (by omega) (by omega)).mp c_32
                    refine lv_iinc (v := (nI n - 1)) (lv' := [(8, .int (nI n - 1)), (6, .int 1), (7, .int (nI (r / 5))), (9, .int (nI (r % 5))), (0, .ref (ad 0)), (1, .long b), (3, .int (nI k)), (4, .long wk)]) hx hb de_M_pump_140 hl (k := 7) rfl (im1 _) (by decide) rfl (fun ls hl => ?_)
                    refine lv_goto (tgt := 29) hx hb de_M_pump_143 (by decide) ?_
                    exact ih (r / 5) 1 wk t2 (by omega) (by omega) (by omega) (by exfalso; omega) (by exfalso; omega) H locs ls hP hD hS (lv_sub hl [4, 5, 6, 7, 1, 2, 0] rfl)
                  · skip
                    have c_32 : ¬ ((t2.2.2.2 2) ≤ n) := fun z => c_32 ((nI_leI (a := t2.2.2.2 2) (b := n) (by omega) (by omega)).mpr z)
                    refine lv_aload_n hx hb de_M_pump_81 rfl (lv_at hl 3 rfl) ?_
                    refine va_get (D := (dC, dI)) (ci := 9) (v := .ref (ad 12)) (C := "StabilitySumsModel") (T := TB_M) (N := 33) hx hb hts ui_M hown hK hP 0 rfl rfl 14 (by decide) (hts _ uw_710) (fun _ h9 => h9) rfl de_M_pump_82 ?_
                    refine lv_iload hx hb de_M_pump_85 (lv_at hl 7 rfl) ?_
                    refine lv_aload_n hx hb de_M_pump_87 rfl (lv_at hl 3 rfl) ?_
                    refine va_get (D := (dC, dI)) (ci := 9) (v := .ref (ad 5)) (C := "StabilitySumsModel") (T := TB_M) (N := 33) hx hb hts ui_M hown hK hP 0 rfl rfl 7 (by decide) (hts _ uw_703) (fun _ h9 => h9) rfl de_M_pump_88 ?_
                    refine lv_iload hx hb de_M_pump_91 (lv_at hl 7 rfl) ?_
                    refine rw_lald (f := t2.1 4) (j := n) hx hb hK hP 5 0 rfl rfl (by omega) (by decide) de_M_pump_93 ?_
                    refine lv_ldc2 (v := 4) hx hb hown (hts _ uw_871) de_M_pump_94 ?_
                    refine lv_ldiv hx hb de_M_pump_97 (by decide) ?_
                    refine lv_topl (fun v_33 ev_33 => ?_)
                    have ev_33 : v_33 = (t2.1 4 n) / 4 := ev_33
                    refine lv_iload hx hb de_M_pump_98 (lv_at hl 2 rfl) ?_
                    refine lv_i2l (v := ((nI (r % 5)).toInt64)) hx hb de_M_pump_100 rfl ?_
                    refine lv_lmul hx hb de_M_pump_101 ?_
                    refine lv_topl (fun v_34 ev_34 => ?_)
                    have ev_34 : v_34 = v_33 * ((nI (r % 5)).toInt64) := ev_34
                    refine rw_last (f := t2.1 11) (j := n) (x := v_34) hx hb hK hP hD hS 12 0 rfl rfl (by omega) (by decide) de_M_pump_102 (fun H locs hP hD hS => ?_)
                    have hP : va_P (dC, dI) CLS (wM ad T (sL t2 11 n v_34)) H := hP
                    have hD : va_D A (wM ad T (sL t2 11 n v_34)) := hD
                    refine lv_aload_n hx hb de_M_pump_103 rfl (lv_at hl 3 rfl) ?_
                    refine va_get (D := (dC, dI)) (ci := 9) (v := .ref (ad 12)) (C := "StabilitySumsModel") (T := TB_M) (N := 33) hx hb hts ui_M hown hK hP 0 rfl rfl 14 (by decide) (hts _ uw_710) (fun _ h9 => h9) rfl de_M_pump_104 ?_
                    refine lv_iload hx hb de_M_pump_107 (lv_at hl 7 rfl) ?_
                    refine rw_lald (f := vp_updL (t2.1 11) n v_34) (j := n) hx hb hK hP 12 0 rfl rfl (by omega) (by decide) de_M_pump_109 ?_
                    refine lv_aload_n hx hb de_M_pump_110 rfl (lv_at hl 3 rfl) ?_
                    refine va_get (D := (dC, dI)) (ci := 9) (v := .ref (ad 10)) (C := "StabilitySumsModel") (T := TB_M) (N := 33) hx hb hts ui_M hown hK hP 0 rfl rfl 12 (by decide) (hts _ uw_708) (fun _ h9 => h9) rfl de_M_pump_111 ?_
                    refine lv_iload hx hb de_M_pump_114 (lv_at hl 7 rfl) ?_
                    refine rw_lald (f := t2.1 9) (j := n) hx hb hK hP 10 0 rfl rfl (by omega) (by decide) de_M_pump_116 ?_
                    refine lv_lsub hx hb de_M_pump_117 ?_
                    refine lv_topl (fun v_35 ev_35 => ?_)
                    have ev_35 : v_35 = ((vp_updL (t2.1 11) n v_34) n) - (t2.1 9 n) := ev_35
                    refine lv_lstore (lv' := [(10, .long v_35), (6, .int 1), (7, .int (nI (r / 5))), (9, .int (nI (r % 5))), (0, .ref (ad 0)), (1, .long b), (3, .int (nI k)), (4, .long wk), (8, .int (nI n))]) hx hb de_M_pump_118 hl (by decide) rfl (fun ls hl => ?_)
                    refine lv_lload hx hb de_M_pump_120 (lv_at hl 7 rfl) ?_
                    refine lv_lload hx hb de_M_pump_122 (lv_at hl 0 rfl) ?_
                    refine lv_lconst (v := 0) hx hb de_M_pump_124 (by decide) ?_
                    refine rw_ge (tgt := 135) hx hb de_M_pump_125 de_M_pump_126 (by decide) (fun c_36 => ?_) (fun c_36 => ?_)
                    · skip
                      refine lv_lload hx hb de_M_pump_135 (lv_at hl 0 rfl) ?_
                      refine lv_ladd hx hb de_M_pump_137 ?_
                      refine lv_topl (fun v_37 ev_37 => ?_)
                      have ev_37 : v_37 = wk + v_35 := ev_37
                      refine lv_lstore (lv' := [(4, .long v_37), (10, .long v_35), (6, .int 1), (7, .int (nI (r / 5))), (9, .int (nI (r % 5))), (0, .ref (ad 0)), (1, .long b), (3, .int (nI k)), (8, .int (nI n))]) hx hb de_M_pump_138 hl (by decide) rfl (fun ls hl => ?_)
                      refine lv_iinc (v := (nI n - 1)) (lv' := [(8, .int (nI n - 1)), (4, .long v_37), (10, .long v_35), (6, .int 1), (7, .int (nI (r / 5))), (9, .int (nI (r % 5))), (0, .ref (ad 0)), (1, .long b), (3, .int (nI k))]) hx hb de_M_pump_140 hl (k := 8) rfl (im1 _) (by decide) rfl (fun ls hl => ?_)
                      refine lv_goto (tgt := 29) hx hb de_M_pump_143 (by decide) ?_
                      exact ih (r / 5) 1 v_37 (sL t2 11 n v_34) (by omega) (by omega) (by omega) ((EqB.sL 11 _ _ (Or.inr (Or.inl rfl))).tr hk2) (by have h3 : v_35 = t2.1 4 n / 4 * (nI (r % 5)).toInt64 - t2.1 9 n := (by rw [ev_35, pk_uLs, ev_34, ev_33]); have h4 : y_ab (t2.1 4 n / 4 * (nI (r % 5)).toInt64 - t2.1 9 n) = v_35 := (by rw [← h3, y_ab, if_pos c_36]); rw [← hq2, y_in, if_neg c_22, (if_pos (show n < t2.2.2.2 2 by omega)), (if_pos (show n < t2.2.2.2 2 by omega)), (if_pos (show n < t2.2.2.2 2 by omega)), h4, ev_37, ev_34, ev_33]) H locs ls hP hD hS (lv_sub hl [6, 7, 8, 1, 3, 4, 0] rfl)
                    · skip
                      refine lv_lload hx hb de_M_pump_129 (lv_at hl 0 rfl) ?_
                      refine lv_lneg hx hb de_M_pump_131 ?_
                      refine lv_topl (fun v_38 ev_38 => ?_)
                      have ev_38 : v_38 = -v_35 := ev_38
                      refine lv_goto (tgt := 137) hx hb de_M_pump_132 (by decide) ?_
                      refine lv_ladd hx hb de_M_pump_137 ?_
                      refine lv_topl (fun v_39 ev_39 => ?_)
                      have ev_39 : v_39 = wk + v_38 := ev_39
                      refine lv_lstore (lv' := [(4, .long v_39), (10, .long v_35), (6, .int 1), (7, .int (nI (r / 5))), (9, .int (nI (r % 5))), (0, .ref (ad 0)), (1, .long b), (3, .int (nI k)), (8, .int (nI n))]) hx hb de_M_pump_138 hl (by decide) rfl (fun ls hl => ?_)
                      refine lv_iinc (v := (nI n - 1)) (lv' := [(8, .int (nI n - 1)), (4, .long v_39), (10, .long v_35), (6, .int 1), (7, .int (nI (r / 5))), (9, .int (nI (r % 5))), (0, .ref (ad 0)), (1, .long b), (3, .int (nI k))]) hx hb de_M_pump_140 hl (k := 8) rfl (im1 _) (by decide) rfl (fun ls hl => ?_)
                      refine lv_goto (tgt := 29) hx hb de_M_pump_143 (by decide) ?_
                      exact ih (r / 5) 1 v_39 (sL t2 11 n v_34) (by omega) (by omega) (by omega) ((EqB.sL 11 _ _ (Or.inr (Or.inl rfl))).tr hk2) (by have h3 : v_35 = t2.1 4 n / 4 * (nI (r % 5)).toInt64 - t2.1 9 n := (by rw [ev_35, pk_uLs, ev_34, ev_33]); have h4 : y_ab (t2.1 4 n / 4 * (nI (r % 5)).toInt64 - t2.1 9 n) = v_38 := (by rw [← h3, y_ab, if_neg c_36, ev_38]); rw [← hq2, y_in, if_neg c_22, (if_pos (show n < t2.2.2.2 2 by omega)), (if_pos (show n < t2.2.2.2 2 by omega)), (if_pos (show n < t2.2.2.2 2 by omega)), h4, ev_39, ev_34, ev_33]) H locs ls hP hD hS (lv_sub hl [6, 7, 8, 1, 3, 4, 0] rfl)
                · skip
                  have c_31 : ¬ (n < (t2.2.2.2 2)) := fun z => c_31 ((nI_ltI (a := n) (b := t2.2.2.2 2) (by omega) (by omega)).mpr z)
                  refine lv_iload hx hb de_M_pump_60 (lv_at hl 1 rfl) ?_
                  refine lv_if_ne (tgt := 69) hx hb de_M_pump_62 (by decide) (fun c_40 => ?_) (fun c_40 => ?_)
                  · skip
                    have c_40 : ¬ (r % 5) = 0 := fun z => c_40 ((nz0 (by omega)).mpr z)
                    refine lv_iconst (v := 0) hx hb de_M_pump_69 (by decide) ?_
                    refine lv_istore (lv' := [(6, .int 0), (7, .int (nI (r / 5))), (9, .int (nI (r % 5))), (0, .ref (ad 0)), (1, .long b), (3, .int (nI k)), (4, .long wk), (8, .int (nI n))]) hx hb de_M_pump_70 hl (by decide) rfl (fun ls hl => ?_)
                    refine lv_iload hx hb de_M_pump_72 (lv_at hl 7 rfl) ?_
                    refine lv_aload_n hx hb de_M_pump_74 rfl (lv_at hl 3 rfl) ?_
                    refine va_get (D := (dC, dI)) (ci := 9) (v := .int (nI (t2.2.2.2 2))) (C := "StabilitySumsModel") (T := TB_M) (N := 33) hx hb hts ui_M hown hK hP 0 rfl rfl 6 (by decide) (hts _ uw_702) (fun _ h9 => h9) rfl de_M_pump_75 ?_
                    refine lv_icmp_ge (tgt := 140) hx hb de_M_pump_78 (by decide) (fun c_41 => ?_) (fun c_41 => ?_)
                    · skip
                      have c_41 : (t2.2.2.2 2) ≤ n := (nI_leI (a := t2.2.2.2 2) (b := n) (by omega) (by omega)).mp c_41
                      refine lv_iinc (v := (nI n - 1)) (lv' := [(8, .int (nI n - 1)), (6, .int 0), (7, .int (nI (r / 5))), (9, .int (nI (r % 5))), (0, .ref (ad 0)), (1, .long b), (3, .int (nI k)), (4, .long wk)]) hx hb de_M_pump_140 hl (k := 7) rfl (im1 _) (by decide) rfl (fun ls hl => ?_)
                      refine lv_goto (tgt := 29) hx hb de_M_pump_143 (by decide) ?_
                      exact ih (r / 5) 0 wk t2 (by omega) (by omega) (by omega) hk2 (by rw [← hq2, y_in, if_neg c_22, (if_neg (show ¬ n < t2.2.2.2 2 by omega)), if_neg c_40, (if_neg (show ¬ n < t2.2.2.2 2 by omega)), (if_neg (show ¬ n < t2.2.2.2 2 by omega))]) H locs ls hP hD hS (lv_sub hl [4, 5, 6, 7, 1, 2, 0] rfl)
                    · skip
                      have c_41 : ¬ ((t2.2.2.2 2) ≤ n) := fun z => c_41 ((nI_leI (a := t2.2.2.2 2) (b := n) (by omega) (by omega)).mpr z)
                      refine lv_aload_n hx hb de_M_pump_81 rfl (lv_at hl 3 rfl) ?_
                      refine va_get (D := (dC, dI)) (ci := 9) (v := .ref (ad 12)) (C := "StabilitySumsModel") (T := TB_M) (N := 33) hx hb hts ui_M hown hK hP 0 rfl rfl 14 (by decide) (hts _ uw_710) (fun _ h9 => h9) rfl de_M_pump_82 ?_
                      refine lv_iload hx hb de_M_pump_85 (lv_at hl 7 rfl) ?_
                      refine lv_aload_n hx hb de_M_pump_87 rfl (lv_at hl 3 rfl) ?_
                      refine va_get (D := (dC, dI)) (ci := 9) (v := .ref (ad 5)) (C := "StabilitySumsModel") (T := TB_M) (N := 33) hx hb hts ui_M hown hK hP 0 rfl rfl 7 (by decide) (hts _ uw_703) (fun _ h9 => h9) rfl de_M_pump_88 ?_
                      refine lv_iload hx hb de_M_pump_91 (lv_at hl 7 rfl) ?_
                      refine rw_lald (f := t2.1 4) (j := n) hx hb hK hP 5 0 rfl rfl (by omega) (by decide) de_M_pump_93 ?_
                      refine lv_ldc2 (v := 4) hx hb hown (hts _ uw_871) de_M_pump_94 ?_
                      refine lv_ldiv hx hb de_M_pump_97 (by decide) ?_
                      refine lv_topl (fun v_42 ev_42 => ?_)
                      have ev_42 : v_42 = (t2.1 4 n) / 4 := ev_42
                      refine lv_iload hx hb de_M_pump_98 (lv_at hl 2 rfl) ?_
                      refine lv_i2l (v := ((nI (r % 5)).toInt64)) hx hb de_M_pump_100 rfl ?_
                      refine lv_lmul hx hb de_M_pump_101 ?_
                      refine lv_topl (fun v_43 ev_43 => ?_)
                      have ev_43 : v_43 = v_42 * ((nI (r % 5)).toInt64) := ev_43
                      refine rw_last (f := t2.1 11) (j := n) (x := v_43) hx hb hK hP hD hS 12 0 rfl rfl (by omega) (by decide) de_M_pump_102 (fun H locs hP hD hS => ?_)
                      have hP : va_P (dC, dI) CLS (wM ad T (sL t2 11 n v_43)) H := hP
                      have hD : va_D A (wM ad T (sL t2 11 n v_43)) := hD
                      refine lv_aload_n hx hb de_M_pump_103 rfl (lv_at hl 3 rfl) ?_
                      refine va_get (D := (dC, dI)) (ci := 9) (v := .ref (ad 12)) (C := "StabilitySumsModel") (T := TB_M) (N := 33) hx hb hts ui_M hown hK hP 0 rfl rfl 14 (by decide) (hts _ uw_710) (fun _ h9 => h9) rfl de_M_pump_104 ?_
                      refine lv_iload hx hb de_M_pump_107 (lv_at hl 7 rfl) ?_
                      refine rw_lald (f := vp_updL (t2.1 11) n v_43) (j := n) hx hb hK hP 12 0 rfl rfl (by omega) (by decide) de_M_pump_109 ?_
                      refine lv_aload_n hx hb de_M_pump_110 rfl (lv_at hl 3 rfl) ?_
                      refine va_get (D := (dC, dI)) (ci := 9) (v := .ref (ad 10)) (C := "StabilitySumsModel") (T := TB_M) (N := 33) hx hb hts ui_M hown hK hP 0 rfl rfl 12 (by decide) (hts _ uw_708) (fun _ h9 => h9) rfl de_M_pump_111 ?_
                      refine lv_iload hx hb de_M_pump_114 (lv_at hl 7 rfl) ?_
                      refine rw_lald (f := t2.1 9) (j := n) hx hb hK hP 10 0 rfl rfl (by omega) (by decide) de_M_pump_116 ?_
                      refine lv_lsub hx hb de_M_pump_117 ?_
                      refine lv_topl (fun v_44 ev_44 => ?_)
                      have ev_44 : v_44 = ((vp_updL (t2.1 11) n v_43) n) - (t2.1 9 n) := ev_44
                      refine lv_lstore (lv' := [(10, .long v_44), (6, .int 0), (7, .int (nI (r / 5))), (9, .int (nI (r % 5))), (0, .ref (ad 0)), (1, .long b), (3, .int (nI k)), (4, .long wk), (8, .int (nI n))]) hx hb de_M_pump_118 hl (by decide) rfl (fun ls hl => ?_)
                      refine lv_lload hx hb de_M_pump_120 (lv_at hl 7 rfl) ?_
                      refine lv_lload hx hb de_M_pump_122 (lv_at hl 0 rfl) ?_
                      refine lv_lconst (v := 0) hx hb de_M_pump_124 (by decide) ?_
                      refine rw_ge (tgt := 135) hx hb de_M_pump_125 de_M_pump_126 (by decide) (fun c_45 => ?_) (fun c_45 => ?_)
                      · skip
                        refine lv_lload hx hb de_M_pump_135 (lv_at hl 0 rfl) ?_
                        refine lv_ladd hx hb de_M_pump_137 ?_
                        refine lv_topl (fun v_46 ev_46 => ?_)
                        have ev_46 : v_46 = wk + v_44 := ev_46
                        refine lv_lstore (lv' := [(4, .long v_46), (10, .long v_44), (6, .int 0), (7, .int (nI (r / 5))), (9, .int (nI (r % 5))), (0, .ref (ad 0)), (1, .long b), (3, .int (nI k)), (8, .int (nI n))]) hx hb de_M_pump_138 hl (by decide) rfl (fun ls hl => ?_)
                        refine lv_iinc (v := (nI n - 1)) (lv' := [(8, .int (nI n - 1)), (4, .long v_46), (10, .long v_44), (6, .int 0), (7, .int (nI (r / 5))), (9, .int (nI (r % 5))), (0, .ref (ad 0)), (1, .long b), (3, .int (nI k))]) hx hb de_M_pump_140 hl (k := 8) rfl (im1 _) (by decide) rfl (fun ls hl => ?_)
                        refine lv_goto (tgt := 29) hx hb de_M_pump_143 (by decide) ?_
                        exact ih (r / 5) 0 v_46 (sL t2 11 n v_43) (by omega) (by omega) (by omega) (by exfalso; omega) (by exfalso; omega) H locs ls hP hD hS (lv_sub hl [6, 7, 8, 1, 3, 4, 0] rfl)
                      · skip
                        refine lv_lload hx hb de_M_pump_129 (lv_at hl 0 rfl) ?_
                        refine lv_lneg hx hb de_M_pump_131 ?_
                        refine lv_topl (fun v_47 ev_47 => ?_)
                        have ev_47 : v_47 = -v_44 := ev_47
                        refine lv_goto (tgt := 137) hx hb de_M_pump_132 (by decide) ?_
                        refine lv_ladd hx hb de_M_pump_137 ?_
                        refine lv_topl (fun v_48 ev_48 => ?_)
                        have ev_48 : v_48 = wk + v_47 := ev_48
                        refine lv_lstore (lv' := [(4, .long v_48), (10, .long v_44), (6, .int 0), (7, .int (nI (r / 5))), (9, .int (nI (r % 5))), (0, .ref (ad 0)), (1, .long b), (3, .int (nI k)), (8, .int (nI n))]) hx hb de_M_pump_138 hl (by decide) rfl (fun ls hl => ?_)
                        refine lv_iinc (v := (nI n - 1)) (lv' := [(8, .int (nI n - 1)), (4, .long v_48), (10, .long v_44), (6, .int 0), (7, .int (nI (r / 5))), (9, .int (nI (r % 5))), (0, .ref (ad 0)), (1, .long b), (3, .int (nI k))]) hx hb de_M_pump_140 hl (k := 8) rfl (im1 _) (by decide) rfl (fun ls hl => ?_)
                        refine lv_goto (tgt := 29) hx hb de_M_pump_143 (by decide) ?_
                        exact ih (r / 5) 0 v_48 (sL t2 11 n v_43) (by omega) (by omega) (by omega) (by exfalso; omega) (by exfalso; omega) H locs ls hP hD hS (lv_sub hl [6, 7, 8, 1, 3, 4, 0] rfl)
                  · skip
                    have c_40 : (r % 5) = 0 := (nz0 (by omega)).mp c_40
                    refine lv_iconst (v := 1) hx hb de_M_pump_65 (by decide) ?_
                    refine lv_goto (tgt := 70) hx hb de_M_pump_66 (by decide) ?_
                    refine lv_istore (lv' := [(6, .int 1), (7, .int (nI (r / 5))), (9, .int (nI (r % 5))), (0, .ref (ad 0)), (1, .long b), (3, .int (nI k)), (4, .long wk), (8, .int (nI n))]) hx hb de_M_pump_70 hl (by decide) rfl (fun ls hl => ?_)
                    refine lv_iload hx hb de_M_pump_72 (lv_at hl 7 rfl) ?_
                    refine lv_aload_n hx hb de_M_pump_74 rfl (lv_at hl 3 rfl) ?_
                    refine va_get (D := (dC, dI)) (ci := 9) (v := .int (nI (t2.2.2.2 2))) (C := "StabilitySumsModel") (T := TB_M) (N := 33) hx hb hts ui_M hown hK hP 0 rfl rfl 6 (by decide) (hts _ uw_702) (fun _ h9 => h9) rfl de_M_pump_75 ?_
                    refine lv_icmp_ge (tgt := 140) hx hb de_M_pump_78 (by decide) (fun c_49 => ?_) (fun c_49 => ?_)
                    · skip
                      have c_49 : (t2.2.2.2 2) ≤ n := (nI_leI (a := t2.2.2.2 2) (b := n) (by omega) (by omega)).mp c_49
                      refine lv_iinc (v := (nI n - 1)) (lv' := [(8, .int (nI n - 1)), (6, .int 1), (7, .int (nI (r / 5))), (9, .int (nI (r % 5))), (0, .ref (ad 0)), (1, .long b), (3, .int (nI k)), (4, .long wk)]) hx hb de_M_pump_140 hl (k := 7) rfl (im1 _) (by decide) rfl (fun ls hl => ?_)
                      refine lv_goto (tgt := 29) hx hb de_M_pump_143 (by decide) ?_
                      exact ih (r / 5) 1 wk t2 (by omega) (by omega) (by omega) hk2 (by rw [← hq2, y_in, if_neg c_22, (if_neg (show ¬ n < t2.2.2.2 2 by omega)), if_pos c_40, (if_neg (show ¬ n < t2.2.2.2 2 by omega)), (if_neg (show ¬ n < t2.2.2.2 2 by omega))]) H locs ls hP hD hS (lv_sub hl [4, 5, 6, 7, 1, 2, 0] rfl)
                    · skip
                      have c_49 : ¬ ((t2.2.2.2 2) ≤ n) := fun z => c_49 ((nI_leI (a := t2.2.2.2 2) (b := n) (by omega) (by omega)).mpr z)
                      refine lv_aload_n hx hb de_M_pump_81 rfl (lv_at hl 3 rfl) ?_
                      refine va_get (D := (dC, dI)) (ci := 9) (v := .ref (ad 12)) (C := "StabilitySumsModel") (T := TB_M) (N := 33) hx hb hts ui_M hown hK hP 0 rfl rfl 14 (by decide) (hts _ uw_710) (fun _ h9 => h9) rfl de_M_pump_82 ?_
                      refine lv_iload hx hb de_M_pump_85 (lv_at hl 7 rfl) ?_
                      refine lv_aload_n hx hb de_M_pump_87 rfl (lv_at hl 3 rfl) ?_
                      refine va_get (D := (dC, dI)) (ci := 9) (v := .ref (ad 5)) (C := "StabilitySumsModel") (T := TB_M) (N := 33) hx hb hts ui_M hown hK hP 0 rfl rfl 7 (by decide) (hts _ uw_703) (fun _ h9 => h9) rfl de_M_pump_88 ?_
                      refine lv_iload hx hb de_M_pump_91 (lv_at hl 7 rfl) ?_
                      refine rw_lald (f := t2.1 4) (j := n) hx hb hK hP 5 0 rfl rfl (by omega) (by decide) de_M_pump_93 ?_
                      refine lv_ldc2 (v := 4) hx hb hown (hts _ uw_871) de_M_pump_94 ?_
                      refine lv_ldiv hx hb de_M_pump_97 (by decide) ?_
                      refine lv_topl (fun v_50 ev_50 => ?_)
                      have ev_50 : v_50 = (t2.1 4 n) / 4 := ev_50
                      refine lv_iload hx hb de_M_pump_98 (lv_at hl 2 rfl) ?_
                      refine lv_i2l (v := ((nI (r % 5)).toInt64)) hx hb de_M_pump_100 rfl ?_
                      refine lv_lmul hx hb de_M_pump_101 ?_
                      refine lv_topl (fun v_51 ev_51 => ?_)
                      have ev_51 : v_51 = v_50 * ((nI (r % 5)).toInt64) := ev_51
                      refine rw_last (f := t2.1 11) (j := n) (x := v_51) hx hb hK hP hD hS 12 0 rfl rfl (by omega) (by decide) de_M_pump_102 (fun H locs hP hD hS => ?_)
                      have hP : va_P (dC, dI) CLS (wM ad T (sL t2 11 n v_51)) H := hP
                      have hD : va_D A (wM ad T (sL t2 11 n v_51)) := hD
                      refine lv_aload_n hx hb de_M_pump_103 rfl (lv_at hl 3 rfl) ?_
                      refine va_get (D := (dC, dI)) (ci := 9) (v := .ref (ad 12)) (C := "StabilitySumsModel") (T := TB_M) (N := 33) hx hb hts ui_M hown hK hP 0 rfl rfl 14 (by decide) (hts _ uw_710) (fun _ h9 => h9) rfl de_M_pump_104 ?_
                      refine lv_iload hx hb de_M_pump_107 (lv_at hl 7 rfl) ?_
                      refine rw_lald (f := vp_updL (t2.1 11) n v_51) (j := n) hx hb hK hP 12 0 rfl rfl (by omega) (by decide) de_M_pump_109 ?_
                      refine lv_aload_n hx hb de_M_pump_110 rfl (lv_at hl 3 rfl) ?_
                      refine va_get (D := (dC, dI)) (ci := 9) (v := .ref (ad 10)) (C := "StabilitySumsModel") (T := TB_M) (N := 33) hx hb hts ui_M hown hK hP 0 rfl rfl 12 (by decide) (hts _ uw_708) (fun _ h9 => h9) rfl de_M_pump_111 ?_
                      refine lv_iload hx hb de_M_pump_114 (lv_at hl 7 rfl) ?_
                      refine rw_lald (f := t2.1 9) (j := n) hx hb hK hP 10 0 rfl rfl (by omega) (by decide) de_M_pump_116 ?_
                      refine lv_lsub hx hb de_M_pump_117 ?_
                      refine lv_topl (fun v_52 ev_52 => ?_)
                      have ev_52 : v_52 = ((vp_updL (t2.1 11) n v_51) n) - (t2.1 9 n) := ev_52
                      refine lv_lstore (lv' := [(10, .long v_52), (6, .int 1), (7, .int (nI (r / 5))), (9, .int (nI (r % 5))), (0, .ref (ad 0)), (1, .long b), (3, .int (nI k)), (4, .long wk), (8, .int (nI n))]) hx hb de_M_pump_118 hl (by decide) rfl (fun ls hl => ?_)
                      refine lv_lload hx hb de_M_pump_120 (lv_at hl 7 rfl) ?_
                      refine lv_lload hx hb de_M_pump_122 (lv_at hl 0 rfl) ?_
                      refine lv_lconst (v := 0) hx hb de_M_pump_124 (by decide) ?_
                      refine rw_ge (tgt := 135) hx hb de_M_pump_125 de_M_pump_126 (by decide) (fun c_53 => ?_) (fun c_53 => ?_)
                      · skip
                        refine lv_lload hx hb de_M_pump_135 (lv_at hl 0 rfl) ?_
                        refine lv_ladd hx hb de_M_pump_137 ?_
                        refine lv_topl (fun v_54 ev_54 => ?_)
                        have ev_54 : v_54 = wk + v_52 := ev_54
                        refine lv_lstore (lv' := [(4, .long v_54), (10, .long v_52), (6, .int 1), (7, .int (nI (r / 5))), (9, .int (nI (r % 5))), (0, .ref (ad 0)), (1, .long b), (3, .int (nI k)), (8, .int (nI n))]) hx hb de_M_pump_138 hl (by decide) rfl (fun ls hl => ?_)
                        refine lv_iinc (v := (nI n - 1)) (lv' := [(8, .int (nI n - 1)), (4, .long v_54), (10, .long v_52), (6, .int 1), (7, .int (nI (r / 5))), (9, .int (nI (r % 5))), (0, .ref (ad 0)), (1, .long b), (3, .int (nI k))]) hx hb de_M_pump_140 hl (k := 8) rfl (im1 _) (by decide) rfl (fun ls hl => ?_)
                        refine lv_goto (tgt := 29) hx hb de_M_pump_143 (by decide) ?_
                        exact ih (r / 5) 1 v_54 (sL t2 11 n v_51) (by omega) (by omega) (by omega) (by exfalso; omega) (by exfalso; omega) H locs ls hP hD hS (lv_sub hl [6, 7, 8, 1, 3, 4, 0] rfl)
                      · skip
                        refine lv_lload hx hb de_M_pump_129 (lv_at hl 0 rfl) ?_
                        refine lv_lneg hx hb de_M_pump_131 ?_
                        refine lv_topl (fun v_55 ev_55 => ?_)
                        have ev_55 : v_55 = -v_52 := ev_55
                        refine lv_goto (tgt := 137) hx hb de_M_pump_132 (by decide) ?_
                        refine lv_ladd hx hb de_M_pump_137 ?_
                        refine lv_topl (fun v_56 ev_56 => ?_)
                        have ev_56 : v_56 = wk + v_55 := ev_56
                        refine lv_lstore (lv' := [(4, .long v_56), (10, .long v_52), (6, .int 1), (7, .int (nI (r / 5))), (9, .int (nI (r % 5))), (0, .ref (ad 0)), (1, .long b), (3, .int (nI k)), (8, .int (nI n))]) hx hb de_M_pump_138 hl (by decide) rfl (fun ls hl => ?_)
                        refine lv_iinc (v := (nI n - 1)) (lv' := [(8, .int (nI n - 1)), (4, .long v_56), (10, .long v_52), (6, .int 1), (7, .int (nI (r / 5))), (9, .int (nI (r % 5))), (0, .ref (ad 0)), (1, .long b), (3, .int (nI k))]) hx hb de_M_pump_140 hl (k := 8) rfl (im1 _) (by decide) rfl (fun ls hl => ?_)
                        refine lv_goto (tgt := 29) hx hb de_M_pump_143 (by decide) ?_
                        exact ih (r / 5) 1 v_56 (sL t2 11 n v_51) (by omega) (by omega) (by omega) (by exfalso; omega) (by exfalso; omega) H locs ls hP hD hS (lv_sub hl [6, 7, 8, 1, 3, 4, 0] rfl)
        exact loop_29 4 k 1 0 t_4 (by omega) (by omega) (by omega) (by rw [et_4]; exact (EqB.pre t1).tr hk) (by rw [et_4]) _ _ ls hP hD hS (lv_sub hl [4, 5, 6, 3, 2, 1, 0] rfl)
  exact loop_6 625 0 (-1) t (by omega) (EqB.rf t) rfl _ _ ls hP hD hS (lv_sub hl [2, 1, 0] rfl)
