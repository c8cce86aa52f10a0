set_option maxHeartbeats 4000000 in
set_option maxRecDepth 100000 in
theorem mt_M_brokenBehind (l : Launch) (dC : Nat → ClassId) (dI : Nat → Nat → Nat) (ad : Nat → Nat) (T : Nat → ClassId) (t : St) (i : Nat) (hI : IvM t) (hi0 : i < t.2.2.2 5) (hE : EM t) (hz : HZ (y_bi i t)) (sz : Nat) : Met l yn_M_brokenBehind (.code yn_M_brokenBehind cd_M_brokenBehind 3 (some .int) :: UW) ({ frames := 4, cells := 0, slots := 0, locals := 99 } : Room) (va_Pc [.ref (ad 0), .int (nI i)] (Pw (dC, dI) CLS (TY T) (wM ad T t) sz)) (va_Qi (fun (r : Int32) (_ : Unit) => r = nI (y_bn (y_bi i t))) (Bw (dC, dI) CLS (TY T) (fun _ : Unit => (wM ad T (y_bs (y_bi i t)))) (va_A (wM ad T t) sz)) (va_A (wM ad T t) sz)) 0 0 (va_A (wM ad T t) sz) := by
  refine Met.ofW (cc := cd_M_brokenBehind) (maxL := 3) (ret := (some .int)) (by decide) rfl ?_
  intro p e s m args below meth c s₁ B hml hv
  obtain ⟨rfl, hsz, hP, hK, hD0, hN⟩ := hv
  have hx := B.exec
  have hb := B.bytes
  have hr := B.returns
  have hts : ∀ w ∈ UW, w.before _ s = true := fun w h => atoms_spec (ws := .code yn_M_brokenBehind cd_M_brokenBehind 3 (some .int) :: UW) B.pre w (List.mem_cons_of_mem _ h)
  have hown : s.vm.findClass "StabilitySumsModel" = some m.cls := findClass_of_methodNamed B.named
  have hlocks := B.notSynchronized
  subst hsz
  have hD := hD0.self (sz := s.heap.size)
  generalize hAe : va_A (wM ad T t) s.heap.size = A at hD ⊢
  have hA : ∀ q : Nat, s.heap.size ≤ q → A q := fun q h => by rw [← hAe]; exact Or.inr h
  have hS : va_S A s.heap s.heap [] := va_S.rf
  have hl := lv_entry ([.ref (ad 0), .int (nI i)]) (n := 3) (Nat.le_of_ble_eq_true rfl)
  rw [lg_entry_eq]
  generalize (lg_sl ([.ref (ad 0), .int (nI i)]) ++ List.replicate (3 - (lg_sl ([.ref (ad 0), .int (nI i)])).length) Slot.unset).toArray = ls at hl ⊢
  have hl : lv_has ls 3 [(0, .ref (ad 0)), (1, .int (nI i))] := hl
  generalize hQ : MQ below _ _ s 0 0 A = Q
  obtain ⟨hI1, hI2, hI3, hI4, hI5⟩ := hI
  refine lv_aload_n hx hb de_M_brokenBehind_0 rfl (lv_at hl 0 rfl) ?_
  refine cl_Vv (As := []) (rest := []) ⟨hx, hb, hml, hown, hts⟩ (mt_M_present l dC dI ad T t (show IvM t from (by refine ⟨?_, ?_, ?_, ?_, ?_⟩ <;> omega))) (cwV 0 hts (uw_V uw_804 uw_806 uw_13 uw_36 uw_807) rfl rfl rfl (by decide +kernel) ⟨Nat.le_of_ble_eq_true rfl, Nat.le_of_ble_eq_true rfl⟩) (va_recv hK hP (ci := 9) (q0 := 0) rfl rfl) rfl hl.1 rfl (Nat.le_of_ble_eq_true rfl) de_M_brokenBehind_1 ⟨Nat.zero_le _, Nat.zero_le _⟩ hK hN hP hD hS hA (fun _ H locs hw_1 hP hD hS => ?_)
  obtain ⟨t_2, et_2⟩ : ∃ z, z = y_pre t := ⟨_, rfl⟩
  have hP : va_P (dC, dI) CLS (wM ad T t_2) H := by rw [et_2]; exact hP
  have hD : va_D A (wM ad T t_2) := by rw [et_2]; exact hD
  obtain ⟨_, _, _, _, _, _⟩ : N6p t_2 t := by rw [et_2]; exact y_pre_6 _
  refine lv_iconst (v := 0) hx hb de_M_brokenBehind_4 (by decide) ?_
  refine lv_istore_n (lv' := [(2, .int 0), (0, .ref (ad 0)), (1, .int (nI i))]) hx hb de_M_brokenBehind_5 rfl hl (by decide) rfl (fun ls hl => ?_)
  have loop_6 : ∀ (n : Nat) (k : Nat) (t1 : St), (k + n = i + 1) → (EqB t1 t) → (y_bb n k t1 = y_bi i t) → ∀ (H : Heap) (locs : List Loc) (ls : Array Slot), va_P (dC, dI) CLS (wM ad T t1) H → va_D A (wM ad T t1) → va_S A s.heap H locs → lv_has ls 3 [(0, .ref (ad 0)), (1, .int (nI i)), (2, .int (nI k))] → W p l e (headSpec (.code yn_M_brokenBehind cd_M_brokenBehind 3 (some .int) :: UW) ({ frames := 4, cells := 0, slots := 0, locals := 99 } : Room)).room s m ([.ref (ad 0), .int (nI i)] : List Value).toArray below meth c H locs 0 0 Q (F0 m 6 ls []) := by
    intro n
    induction n with
    | zero =>
      intro k t1 hi hk hq H locs ls hP hD hS hl
      obtain ⟨_, _, _, _, _, _⟩ := hk.six
      have hE1 := hE.same hk
      refine lv_iload_n hx hb de_M_brokenBehind_6 rfl (lv_at hl 2 rfl) ?_
      refine lv_iload_n hx hb de_M_brokenBehind_7 rfl (lv_at hl 1 rfl) ?_
      refine lv_icmp_gt (tgt := 66) hx hb de_M_brokenBehind_8 (by decide) (fun c_3 => ?_) (fun c_3 => ?_)
      · skip
        have c_3 : i < k := (nI_ltI (a := i) (b := k) (by omega) (by omega)).mp c_3
        refine lv_aload_n hx hb de_M_brokenBehind_66 rfl (lv_at hl 0 rfl) ?_
        refine cl_Vi (As := []) (rest := []) ⟨hx, hb, hml, hown, hts⟩ (mt_M_broken0 l dC dI ad T t1 (show IvM t1 from (by refine ⟨?_, ?_, ?_, ?_, ?_⟩ <;> omega)) (by have h9 : t1 = _ := hq; rw [h9]; exact hz)) (cwV 0 hts (uw_V uw_900 uw_902 uw_22 uw_36 uw_903) rfl rfl rfl (by decide +kernel) ⟨Nat.le_of_ble_eq_true rfl, Nat.le_of_ble_eq_true rfl⟩) (va_recv hK hP (ci := 9) (q0 := 0) rfl rfl) rfl hl.1 rfl (Nat.le_of_ble_eq_true rfl) de_M_brokenBehind_67 ⟨Nat.zero_le _, Nat.zero_le _⟩ hK hN hP hD hS hA (fun r_4 _ H locs hw_4 hP hD hS => ?_)
        have hw_4 : r_4 = nI (y_bn t1) := hw_4
        subst hw_4
        have : y_bn t1 ≤ 0 + t1.2.2.2 4 := y_lb_le _ _ _
        obtain ⟨t_5, et_5⟩ : ∃ z, z = y_bs t1 := ⟨_, rfl⟩
        have hP : va_P (dC, dI) CLS (wM ad T t_5) H := by rw [et_5]; exact hP
        have hD : va_D A (wM ad T t_5) := by rw [et_5]; exact hD
        obtain ⟨_, _, _, _, _, _⟩ : N6p t_5 t1 := by rw [et_5]; exact nsix (y_lb_N _ _ _)
        have hfin : t_5 = y_bs (y_bi i t) := by
          have h9 : t1 = _ := hq
          subst_vars; rfl
        rw [hfin] at hP hD
        subst hQ
        have hpost : ((nI (y_bn t1)) : Int32) = nI (y_bn (y_bi i t)) := by
          have h9 : t1 = _ := hq
          subst_vars; rfl
        exact W.iret (v := (nI (y_bn t1))) hx hb hr (fun t9 ht hW => ⟨⟨(nI (y_bn t1)), (), rfl, hpost, by rw [ht]; exact hP, va_K.moved hW.alike hK, hD⟩, hS.F ht⟩) hS.2.2 de_M_brokenBehind_70
      · skip
        have c_3 : ¬ (i < k) := fun z => c_3 ((nI_ltI (a := i) (b := k) (by omega) (by omega)).mpr z)
        exfalso; omega
    | succ n ih =>
      intro k t1 hi hk hq H locs ls hP hD hS hl
      obtain ⟨_, _, _, _, _, _⟩ := hk.six
      have hE1 := hE.same hk
      refine lv_iload_n hx hb de_M_brokenBehind_6 rfl (lv_at hl 2 rfl) ?_
      refine lv_iload_n hx hb de_M_brokenBehind_7 rfl (lv_at hl 1 rfl) ?_
      refine lv_icmp_gt (tgt := 66) hx hb de_M_brokenBehind_8 (by decide) (fun c_6 => ?_) (fun c_6 => ?_)
      · skip
        have c_6 : i < k := (nI_ltI (a := i) (b := k) (by omega) (by omega)).mp c_6
        exfalso; omega
      · skip
        have c_6 : ¬ (i < k) := fun z => c_6 ((nI_ltI (a := i) (b := k) (by omega) (by omega)).mpr z)
        refine lv_aload_n hx hb de_M_brokenBehind_11 rfl (lv_at hl 0 rfl) ?_
        refine va_get (D := (dC, dI)) (ci := 9) (v := .ref (ad 21)) (C := "StabilitySumsModel") (T := TB_M) (N := 33) hx hb hts ui_M hown hK hP 0 rfl rfl 28 (by decide) (hts _ uw_724) (fun _ h9 => h9) rfl de_M_brokenBehind_12 ?_
        refine lv_iload_n hx hb de_M_brokenBehind_15 rfl (lv_at hl 2 rfl) ?_
        refine rw_zald (f := t1.2.1 1) (j := k) hx hb hK hP 21 2 rfl rfl (by omega) (by decide) de_M_brokenBehind_16 ?_
        refine lv_if_eq (tgt := 40) hx hb de_M_brokenBehind_17 (by decide) (fun c_7 => ?_) (fun c_7 => ?_)
        · skip
          refine lv_aload_n hx hb de_M_brokenBehind_40 rfl (lv_at hl 0 rfl) ?_
          refine va_get (D := (dC, dI)) (ci := 9) (v := .ref (ad 11)) (C := "StabilitySumsModel") (T := TB_M) (N := 33) hx hb hts ui_M hown hK hP 0 rfl rfl 13 (by decide) (hts _ uw_709) (fun _ h9 => h9) rfl de_M_brokenBehind_41 ?_
          refine lv_aload_n hx hb de_M_brokenBehind_44 rfl (lv_at hl 0 rfl) ?_
          refine va_get (D := (dC, dI)) (ci := 9) (v := .ref (ad 22)) (C := "StabilitySumsModel") (T := TB_M) (N := 33) hx hb hts ui_M hown hK hP 0 rfl rfl 29 (by decide) (hts _ uw_725) (fun _ h9 => h9) rfl de_M_brokenBehind_45 ?_
          refine lv_iload_n hx hb de_M_brokenBehind_48 rfl (lv_at hl 2 rfl) ?_
          refine rw_iald (f := t1.2.1 2) (j := k) hx hb hK hP 22 1 rfl rfl (by omega) (by decide) de_M_brokenBehind_49 ?_
          refine lv_dup2_11 hx hb de_M_brokenBehind_50 rfl rfl ?_
          have hix_51 : (t1.2.1 2 k) = nI ((t1.2.1 2 k).toNatClampNeg) := (hE1 k (by omega)).1
          rw [hix_51]
          refine rw_lald (f := t1.1 10) (j := ((t1.2.1 2 k).toNatClampNeg)) hx hb hK hP 11 0 rfl rfl ((hE1 k (by omega)).2.1 c_7) (by decide) de_M_brokenBehind_51 ?_
          refine lv_aload_n hx hb de_M_brokenBehind_52 rfl (lv_at hl 0 rfl) ?_
          refine va_get (D := (dC, dI)) (ci := 9) (v := .ref (ad 23)) (C := "StabilitySumsModel") (T := TB_M) (N := 33) hx hb hts ui_M hown hK hP 0 rfl rfl 30 (by decide) (hts _ uw_726) (fun _ h9 => h9) rfl de_M_brokenBehind_53 ?_
          refine lv_iload_n hx hb de_M_brokenBehind_56 rfl (lv_at hl 2 rfl) ?_
          refine rw_lald (f := t1.1 19) (j := k) hx hb hK hP 23 0 rfl rfl (by omega) (by decide) de_M_brokenBehind_57 ?_
          refine lv_ladd hx hb de_M_brokenBehind_58 ?_
          refine lv_topl (fun v_8 ev_8 => ?_)
          have ev_8 : v_8 = (t1.1 10 ((t1.2.1 2 k).toNatClampNeg)) + (t1.1 19 k) := ev_8
          refine rw_last (f := t1.1 10) (j := ((t1.2.1 2 k).toNatClampNeg)) (x := v_8) hx hb hK hP hD hS 11 0 rfl rfl ((hE1 k (by omega)).2.1 c_7) (by decide) de_M_brokenBehind_59 (fun H locs hP hD hS => ?_)
          have hP : va_P (dC, dI) CLS (wM ad T (sL t1 10 ((t1.2.1 2 k).toNatClampNeg) v_8)) H := hP
          have hD : va_D A (wM ad T (sL t1 10 ((t1.2.1 2 k).toNatClampNeg) v_8)) := hD
          refine lv_iinc (v := (nI (k + 1))) (lv' := [(2, .int (nI (k + 1))), (0, .ref (ad 0)), (1, .int (nI i))]) hx hb de_M_brokenBehind_60 hl (k := 2) rfl (nI_1 k) (by decide) rfl (fun ls hl => ?_)
          refine lv_goto (tgt := 6) hx hb de_M_brokenBehind_63 (by decide) ?_
          exact ih (k + 1) (sL t1 10 ((t1.2.1 2 k).toNatClampNeg) v_8) (by omega) (((by first | exact EqB.sL 10 _ _ (Or.inl rfl) | exact EqB.sL 11 _ _ (Or.inr (Or.inl rfl))) : EqB (sL t1 10 ((t1.2.1 2 k).toNatClampNeg) v_8) t1).tr hk) (by rw [← hq, y_bb, y_stp, if_pos c_7, ev_8]) H locs ls hP hD hS (lv_sub hl [1, 2, 0] rfl)
        · skip
          refine lv_aload_n hx hb de_M_brokenBehind_20 rfl (lv_at hl 0 rfl) ?_
          refine va_get (D := (dC, dI)) (ci := 9) (v := .ref (ad 12)) (C := "StabilitySumsModel") (T := TB_M) (N := 33) hx hb hts ui_M hown hK hP 0 rfl rfl 14 (by decide) (hts _ uw_710) (fun _ h9 => h9) rfl de_M_brokenBehind_21 ?_
          refine lv_aload_n hx hb de_M_brokenBehind_24 rfl (lv_at hl 0 rfl) ?_
          refine va_get (D := (dC, dI)) (ci := 9) (v := .ref (ad 22)) (C := "StabilitySumsModel") (T := TB_M) (N := 33) hx hb hts ui_M hown hK hP 0 rfl rfl 29 (by decide) (hts _ uw_725) (fun _ h9 => h9) rfl de_M_brokenBehind_25 ?_
          refine lv_iload_n hx hb de_M_brokenBehind_28 rfl (lv_at hl 2 rfl) ?_
          refine rw_iald (f := t1.2.1 2) (j := k) hx hb hK hP 22 1 rfl rfl (by omega) (by decide) de_M_brokenBehind_29 ?_
          refine lv_aload_n hx hb de_M_brokenBehind_30 rfl (lv_at hl 0 rfl) ?_
          refine va_get (D := (dC, dI)) (ci := 9) (v := .ref (ad 23)) (C := "StabilitySumsModel") (T := TB_M) (N := 33) hx hb hts ui_M hown hK hP 0 rfl rfl 30 (by decide) (hts _ uw_726) (fun _ h9 => h9) rfl de_M_brokenBehind_31 ?_
          refine lv_iload_n hx hb de_M_brokenBehind_34 rfl (lv_at hl 2 rfl) ?_
          refine rw_lald (f := t1.1 19) (j := k) hx hb hK hP 23 0 rfl rfl (by omega) (by decide) de_M_brokenBehind_35 ?_
          have hix_36 : (t1.2.1 2 k) = nI ((t1.2.1 2 k).toNatClampNeg) := (hE1 k (by omega)).1
          rw [hix_36]
          refine rw_last (f := t1.1 11) (j := ((t1.2.1 2 k).toNatClampNeg)) (x := (t1.1 19 k)) hx hb hK hP hD hS 12 0 rfl rfl ((hE1 k (by omega)).2.2 c_7) (by decide) de_M_brokenBehind_36 (fun H locs hP hD hS => ?_)
          have hP : va_P (dC, dI) CLS (wM ad T (sL t1 11 ((t1.2.1 2 k).toNatClampNeg) (t1.1 19 k))) H := hP
          have hD : va_D A (wM ad T (sL t1 11 ((t1.2.1 2 k).toNatClampNeg) (t1.1 19 k))) := hD
          refine lv_goto (tgt := 60) hx hb de_M_brokenBehind_37 (by decide) ?_
          refine lv_iinc (v := (nI (k + 1))) (lv' := [(2, .int (nI (k + 1))), (0, .ref (ad 0)), (1, .int (nI i))]) hx hb de_M_brokenBehind_60 hl (k := 2) rfl (nI_1 k) (by decide) rfl (fun ls hl => ?_)
          refine lv_goto (tgt := 6) hx hb de_M_brokenBehind_63 (by decide) ?_
          exact ih (k + 1) (sL t1 11 ((t1.2.1 2 k).toNatClampNeg) (t1.1 19 k)) (by omega) (((by first | exact EqB.sL 10 _ _ (Or.inl rfl) | exact EqB.sL 11 _ _ (Or.inr (Or.inl rfl))) : EqB (sL t1 11 ((t1.2.1 2 k).toNatClampNeg) (t1.1 19 k)) t1).tr hk) (by rw [← hq, y_bb, y_stp, if_neg c_7]) H locs ls hP hD hS (lv_sub hl [1, 2, 0] rfl)
  exact loop_6 (i + 1) 0 t_2 (by omega) (by rw [et_2]; exact EqB.pre t) (by rw [et_2]; rfl) _ _ ls hP hD hS (lv_sub hl [1, 2, 0] rfl)
