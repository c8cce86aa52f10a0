set_option maxHeartbeats 4000000 in
set_option maxRecDepth 100000 in
theorem mt_M_isBroken (l : Launch) (dC : Nat → ClassId) (dI : Nat → Nat → Nat) (ad : Nat → Nat) (T : Nat → ClassId) (t : St) (i : Nat) (hI : IvM t) (hi0 : i < 10) (hz : HZ t) (sz : Nat) : Met l yn_M_isBroken (.code yn_M_isBroken cd_M_isBroken 6 (some .boolean) :: UW) ({ frames := 2, cells := 0, slots := 0, locals := 53 } : Room) (va_Pc [.ref (ad 0), .int (nI i)] (Pw (dC, dI) CLS (TY T) (wM ad T t) sz)) (va_Qi (fun (r : Int32) (_ : Unit) => bz r (y_bp i t)) (Bw (dC, dI) CLS (TY T) (fun _ : Unit => (wM ad T (y_bt i t))) (va_A (wM ad T t) sz)) (va_A (wM ad T t) sz)) 0 0 (va_A (wM ad T t) sz) := by
  refine Met.ofW (cc := cd_M_isBroken) (maxL := 6) (ret := (some .boolean)) (by decide) rfl ?_
  intro p e s m args below meth c s₁ B hml hv
  obtain ⟨rfl, hsz, hP, hK, hD0, hN⟩ := hv
  have hx := B.exec
  have hb := B.bytes
  have hr := B.returns
  have hts : ∀ w ∈ UW, w.before _ s = true := fun w h => atoms_spec (ws := .code yn_M_isBroken cd_M_isBroken 6 (some .boolean) :: UW) B.pre w (List.mem_cons_of_mem _ h)
  have hown : s.vm.findClass "StabilitySumsModel" = some m.cls := findClass_of_methodNamed B.named
  have hlocks := B.notSynchronized
  subst hsz
  have hD := hD0.self (sz := s.heap.size)
  generalize hAe : va_A (wM ad T t) s.heap.size = A at hD ⊢
  have hA : ∀ q : Nat, s.heap.size ≤ q → A q := fun q h => by rw [← hAe]; exact Or.inr h
  have hS : va_S A s.heap s.heap [] := va_S.rf
  have hl := lv_entry ([.ref (ad 0), .int (nI i)]) (n := 6) (Nat.le_of_ble_eq_true rfl)
  rw [lg_entry_eq]
  generalize (lg_sl ([.ref (ad 0), .int (nI i)]) ++ List.replicate (6 - (lg_sl ([.ref (ad 0), .int (nI i)])).length) Slot.unset).toArray = ls at hl ⊢
  have hl : lv_has ls 6 [(0, .ref (ad 0)), (1, .int (nI i))] := hl
  generalize hQ : MQ below _ _ s 0 0 A = Q
  obtain ⟨hI1, hI2, hI3, hI4, hI5⟩ := hI
  refine lv_aload_n hx hb de_M_isBroken_0 rfl (lv_at hl 0 rfl) ?_
  refine va_get (D := (dC, dI)) (ci := 9) (v := .ref (ad 17)) (C := "StabilitySumsModel") (T := TB_M) (N := 33) hx hb hts ui_M hown hK hP 0 rfl rfl 23 (by decide) (hts _ uw_719) (fun _ h9 => h9) rfl de_M_isBroken_1 ?_
  refine lv_iload_n hx hb de_M_isBroken_4 rfl (lv_at hl 1 rfl) ?_
  refine rw_iald (f := t.2.1 0) (j := i) hx hb hK hP 17 1 rfl rfl (by omega) (by decide) de_M_isBroken_5 ?_
  refine lv_bipush (v := 7) hx hb de_M_isBroken_6 (by decide) ?_
  refine lv_icmp_le (tgt := 74) hx hb de_M_isBroken_8 (by decide) (fun c_1 => ?_) (fun c_1 => ?_)
  · skip
    refine lv_aload_n hx hb de_M_isBroken_74 rfl (lv_at hl 0 rfl) ?_
    refine va_get (D := (dC, dI)) (ci := 9) (v := .ref (ad 17)) (C := "StabilitySumsModel") (T := TB_M) (N := 33) hx hb hts ui_M hown hK hP 0 rfl rfl 23 (by decide) (hts _ uw_719) (fun _ h9 => h9) rfl de_M_isBroken_75 ?_
    refine lv_iload_n hx hb de_M_isBroken_78 rfl (lv_at hl 1 rfl) ?_
    refine rw_iald (f := t.2.1 0) (j := i) hx hb hK hP 17 1 rfl rfl (by omega) (by decide) de_M_isBroken_79 ?_
    refine cl_Si (As := [.int (t.2.1 0 i)]) (rest := []) ⟨hx, hb, hml, hown, hts⟩ (mt_M_divides l dC dI ad T t (t.2.1 0 i)) (va_cwS 1 hts (uw_S uw_808 uw_809 uw_36 uw_810) rfl rfl rfl (by decide +kernel) ⟨Nat.le_of_ble_eq_true rfl, Nat.le_of_ble_eq_true rfl⟩) rfl hl.1 rfl (Nat.le_of_ble_eq_true rfl) de_M_isBroken_80 ⟨Nat.zero_le _, Nat.zero_le _⟩ hK hN hP hD hS hA (fun r_2 _ H locs hw_2 hP hD hS => ?_)
    have hw_2 : bz r_2 (y_div (t.2.1 0 i)) := hw_2
    refine lv_if_eq (tgt := 98) hx hb de_M_isBroken_83 (by decide) (fun c_3 => ?_) (fun c_3 => ?_)
    · skip
      have c_3 := bz_f hw_2 c_3
      refine lv_aload_n hx hb de_M_isBroken_98 rfl (lv_at hl 0 rfl) ?_
      refine lv_aload_n hx hb de_M_isBroken_99 rfl (lv_at hl 0 rfl) ?_
      refine va_get (D := (dC, dI)) (ci := 9) (v := .ref (ad 17)) (C := "StabilitySumsModel") (T := TB_M) (N := 33) hx hb hts ui_M hown hK hP 0 rfl rfl 23 (by decide) (hts _ uw_719) (fun _ h9 => h9) rfl de_M_isBroken_100 ?_
      refine lv_iload_n hx hb de_M_isBroken_103 rfl (lv_at hl 1 rfl) ?_
      refine rw_iald (f := t.2.1 0) (j := i) hx hb hK hP 17 1 rfl rfl (by omega) (by decide) de_M_isBroken_104 ?_
      refine cl_Vv (As := [.int (t.2.1 0 i)]) (rest := []) ⟨hx, hb, hml, hown, hts⟩ (mt_M_reckon l dC dI ad T t (t.2.1 0 i) (show IvM t from (by refine ⟨?_, ?_, ?_, ?_, ?_⟩ <;> omega))) (cwV 1 hts (uw_V uw_815 uw_817 uw_15 uw_36 uw_818) rfl rfl rfl (by decide +kernel) ⟨Nat.le_of_ble_eq_true rfl, Nat.le_of_ble_eq_true rfl⟩) (va_recv hK hP (ci := 9) (q0 := 0) rfl rfl) rfl hl.1 rfl (Nat.le_of_ble_eq_true rfl) de_M_isBroken_105 ⟨Nat.zero_le _, Nat.zero_le _⟩ hK hN hP hD hS hA (fun _ H locs hw_4 hP hD hS => ?_)
      obtain ⟨t_5, et_5⟩ : ∃ z, z = y_rk (t.2.1 0 i) t := ⟨_, rfl⟩
      have hP : va_P (dC, dI) CLS (wM ad T t_5) H := by rw [et_5]; exact hP
      have hD : va_D A (wM ad T t_5) := by rw [et_5]; exact hD
      obtain ⟨_, _, _, _, _, _⟩ : N6p t_5 t := by rw [et_5]; exact nsix rfl
      refine lv_aload_n hx hb de_M_isBroken_108 rfl (lv_at hl 0 rfl) ?_
      refine va_get (D := (dC, dI)) (ci := 9) (v := .long (t_5.2.2.1 2)) (C := "StabilitySumsModel") (T := TB_M) (N := 33) hx hb hts ui_M hown hK hP 0 rfl rfl 31 (by decide) (hts _ uw_727) (fun _ h9 => h9) rfl de_M_isBroken_109 ?_
      refine lv_aload_n hx hb de_M_isBroken_112 rfl (lv_at hl 0 rfl) ?_
      refine va_get (D := (dC, dI)) (ci := 9) (v := .long (t_5.2.2.1 3)) (C := "StabilitySumsModel") (T := TB_M) (N := 33) hx hb hts ui_M hown hK hP 0 rfl rfl 32 (by decide) (hts _ uw_728) (fun _ h9 => h9) rfl de_M_isBroken_113 ?_
      refine cl_Sl (As := [.long (t_5.2.2.1 2), .long (t_5.2.2.1 3)]) (rest := []) ⟨hx, hb, hml, hown, hts⟩ (mt_M_floor l dC dI ad T t_5 (t_5.2.2.1 2) (t_5.2.2.1 3) (fun z => hz.2.2 _ c_1 (fun q => c_3 q.1) (by rw [et_5] at z; exact z))) (va_cwS 2 hts (uw_S uw_831 uw_832 uw_36 uw_833) rfl rfl rfl (by decide +kernel) ⟨Nat.le_of_ble_eq_true rfl, Nat.le_of_ble_eq_true rfl⟩) rfl hl.1 rfl (Nat.le_of_ble_eq_true rfl) de_M_isBroken_116 ⟨Nat.zero_le _, Nat.zero_le _⟩ hK hN hP hD hS hA (fun r_6 _ H locs hw_6 hP hD hS => ?_)
      have hw_6 : r_6 = y_fl (t_5.2.2.1 2) (t_5.2.2.1 3) := hw_6
      refine lv_lstore_n (lv' := [(2, .long r_6), (0, .ref (ad 0)), (1, .int (nI i))]) hx hb de_M_isBroken_119 rfl hl (by decide) rfl (fun ls hl => ?_)
      refine lv_lload_n hx hb de_M_isBroken_120 rfl (lv_at hl 0 rfl) ?_
      refine lv_aload_n hx hb de_M_isBroken_121 rfl (lv_at hl 1 rfl) ?_
      refine va_get (D := (dC, dI)) (ci := 9) (v := .long (t_5.2.2.1 3)) (C := "StabilitySumsModel") (T := TB_M) (N := 33) hx hb hts ui_M hown hK hP 0 rfl rfl 32 (by decide) (hts _ uw_728) (fun _ h9 => h9) rfl de_M_isBroken_122 ?_
      refine lv_lmul hx hb de_M_isBroken_125 ?_
      refine lv_topl (fun v_7 ev_7 => ?_)
      have ev_7 : v_7 = r_6 * (t_5.2.2.1 3) := ev_7
      refine lv_aload_n hx hb de_M_isBroken_126 rfl (lv_at hl 1 rfl) ?_
      refine va_get (D := (dC, dI)) (ci := 9) (v := .long (t_5.2.2.1 2)) (C := "StabilitySumsModel") (T := TB_M) (N := 33) hx hb hts ui_M hown hK hP 0 rfl rfl 31 (by decide) (hts _ uw_727) (fun _ h9 => h9) rfl de_M_isBroken_127 ?_
      refine rw_ne (tgt := 138) hx hb de_M_isBroken_130 de_M_isBroken_131 (by decide) (fun c_8 => ?_) (fun c_8 => ?_)
      · skip
        refine lv_lload_n hx hb de_M_isBroken_138 rfl (lv_at hl 0 rfl) ?_
        refine lv_lconst (v := 1) hx hb de_M_isBroken_139 (by decide) ?_
        refine lv_ladd hx hb de_M_isBroken_140 ?_
        refine lv_topl (fun v_9 ev_9 => ?_)
        have ev_9 : v_9 = r_6 + 1 := ev_9
        refine lv_lstore (lv' := [(4, .long v_9), (2, .long r_6), (0, .ref (ad 0)), (1, .int (nI i))]) hx hb de_M_isBroken_141 hl (by decide) rfl (fun ls hl => ?_)
        refine lv_lload_n hx hb de_M_isBroken_143 rfl (lv_at hl 1 rfl) ?_
        refine lv_aload_n hx hb de_M_isBroken_144 rfl (lv_at hl 2 rfl) ?_
        refine va_get (D := (dC, dI)) (ci := 9) (v := .ref (ad 19)) (C := "StabilitySumsModel") (T := TB_M) (N := 33) hx hb hts ui_M hown hK hP 0 rfl rfl 25 (by decide) (hts _ uw_721) (fun _ h9 => h9) rfl de_M_isBroken_145 ?_
        refine lv_iload_n hx hb de_M_isBroken_148 rfl (lv_at hl 3 rfl) ?_
        refine rw_lald (f := t_5.1 17) (j := i) hx hb hK hP 19 0 rfl rfl (by omega) (by decide) de_M_isBroken_149 ?_
        refine rw_lt (tgt := 166) hx hb de_M_isBroken_150 de_M_isBroken_151 (by decide) (fun c_10 => ?_) (fun c_10 => ?_)
        · skip
          refine lv_iconst (v := 1) hx hb de_M_isBroken_166 (by decide) ?_
          refine lv_goto (tgt := 171) hx hb de_M_isBroken_167 (by decide) ?_
          have hfin : t_5 = y_bt i t := by
            rw [y_bt, if_pos c_1, if_neg (fun q => c_3 q.1)]; exact et_5
          rw [hfin] at hP hD
          subst hQ
          have hpost : bz 1 (y_bp i t) := by
            subst ev_7
            subst ev_9
            subst hw_6
            subst et_5
            have hce : y_ce (y_U (t.2.1 0 i) t) (y_D (t.2.1 0 i) t) = y_fl (y_U (t.2.1 0 i) t) (y_D (t.2.1 0 i) t) + 1 := if_neg c_8
            unfold y_bp; rw [if_pos c_1, if_neg (fun q => c_3 q.1)]
            exact Or.inl ⟨rfl, Or.inl c_10⟩
          exact W.zret (v := 1) hx hb hr (bz_nar hpost) (fun t9 ht hW => ⟨⟨1, (), rfl, hpost, by rw [ht]; exact hP, va_K.moved hW.alike hK, hD⟩, hS.F ht⟩) hS.2.2 de_M_isBroken_171
        · skip
          refine lv_lload hx hb de_M_isBroken_154 (lv_at hl 0 rfl) ?_
          refine lv_aload_n hx hb de_M_isBroken_156 rfl (lv_at hl 2 rfl) ?_
          refine va_get (D := (dC, dI)) (ci := 9) (v := .ref (ad 20)) (C := "StabilitySumsModel") (T := TB_M) (N := 33) hx hb hts ui_M hown hK hP 0 rfl rfl 26 (by decide) (hts _ uw_722) (fun _ h9 => h9) rfl de_M_isBroken_157 ?_
          refine lv_iload_n hx hb de_M_isBroken_160 rfl (lv_at hl 3 rfl) ?_
          refine rw_lald (f := t_5.1 18) (j := i) hx hb hK hP 20 0 rfl rfl (by omega) (by decide) de_M_isBroken_161 ?_
          refine rw_le (tgt := 170) hx hb de_M_isBroken_162 de_M_isBroken_163 (by decide) (fun c_11 => ?_) (fun c_11 => ?_)
          · skip
            refine lv_iconst (v := 0) hx hb de_M_isBroken_170 (by decide) ?_
            have hfin : t_5 = y_bt i t := by
              rw [y_bt, if_pos c_1, if_neg (fun q => c_3 q.1)]; exact et_5
            rw [hfin] at hP hD
            subst hQ
            have hpost : bz 0 (y_bp i t) := by
              subst ev_7
              subst ev_9
              subst hw_6
              subst et_5
              have hce : y_ce (y_U (t.2.1 0 i) t) (y_D (t.2.1 0 i) t) = y_fl (y_U (t.2.1 0 i) t) (y_D (t.2.1 0 i) t) + 1 := if_neg c_8
              unfold y_bp; rw [if_pos c_1, if_neg (fun q => c_3 q.1)]
              exact Or.inr ⟨rfl, fun z => z.elim c_10 (fun q => q (by rw [hce]; exact c_11))⟩
            exact W.zret (v := 0) hx hb hr (bz_nar hpost) (fun t9 ht hW => ⟨⟨0, (), rfl, hpost, by rw [ht]; exact hP, va_K.moved hW.alike hK, hD⟩, hS.F ht⟩) hS.2.2 de_M_isBroken_171
          · skip
            refine lv_iconst (v := 1) hx hb de_M_isBroken_166 (by decide) ?_
            refine lv_goto (tgt := 171) hx hb de_M_isBroken_167 (by decide) ?_
            have hfin : t_5 = y_bt i t := by
              rw [y_bt, if_pos c_1, if_neg (fun q => c_3 q.1)]; exact et_5
            rw [hfin] at hP hD
            subst hQ
            have hpost : bz 1 (y_bp i t) := by
              subst ev_7
              subst ev_9
              subst hw_6
              subst et_5
              have hce : y_ce (y_U (t.2.1 0 i) t) (y_D (t.2.1 0 i) t) = y_fl (y_U (t.2.1 0 i) t) (y_D (t.2.1 0 i) t) + 1 := if_neg c_8
              unfold y_bp; rw [if_pos c_1, if_neg (fun q => c_3 q.1)]
              exact Or.inl ⟨rfl, Or.inr (by rw [hce]; exact c_11)⟩
            exact W.zret (v := 1) hx hb hr (bz_nar hpost) (fun t9 ht hW => ⟨⟨1, (), rfl, hpost, by rw [ht]; exact hP, va_K.moved hW.alike hK, hD⟩, hS.F ht⟩) hS.2.2 de_M_isBroken_171
      · skip
        refine lv_lload_n hx hb de_M_isBroken_134 rfl (lv_at hl 0 rfl) ?_
        refine lv_goto (tgt := 141) hx hb de_M_isBroken_135 (by decide) ?_
        refine lv_lstore (lv' := [(4, .long r_6), (2, .long r_6), (0, .ref (ad 0)), (1, .int (nI i))]) hx hb de_M_isBroken_141 hl (by decide) rfl (fun ls hl => ?_)
        refine lv_lload_n hx hb de_M_isBroken_143 rfl (lv_at hl 1 rfl) ?_
        refine lv_aload_n hx hb de_M_isBroken_144 rfl (lv_at hl 2 rfl) ?_
        refine va_get (D := (dC, dI)) (ci := 9) (v := .ref (ad 19)) (C := "StabilitySumsModel") (T := TB_M) (N := 33) hx hb hts ui_M hown hK hP 0 rfl rfl 25 (by decide) (hts _ uw_721) (fun _ h9 => h9) rfl de_M_isBroken_145 ?_
        refine lv_iload_n hx hb de_M_isBroken_148 rfl (lv_at hl 3 rfl) ?_
        refine rw_lald (f := t_5.1 17) (j := i) hx hb hK hP 19 0 rfl rfl (by omega) (by decide) de_M_isBroken_149 ?_
        refine rw_lt (tgt := 166) hx hb de_M_isBroken_150 de_M_isBroken_151 (by decide) (fun c_12 => ?_) (fun c_12 => ?_)
        · skip
          refine lv_iconst (v := 1) hx hb de_M_isBroken_166 (by decide) ?_
          refine lv_goto (tgt := 171) hx hb de_M_isBroken_167 (by decide) ?_
          have hfin : t_5 = y_bt i t := by
            rw [y_bt, if_pos c_1, if_neg (fun q => c_3 q.1)]; exact et_5
          rw [hfin] at hP hD
          subst hQ
          have hpost : bz 1 (y_bp i t) := by
            subst ev_7
            subst hw_6
            subst et_5
            have hce : y_ce (y_U (t.2.1 0 i) t) (y_D (t.2.1 0 i) t) = y_fl (y_U (t.2.1 0 i) t) (y_D (t.2.1 0 i) t) := if_pos c_8
            unfold y_bp; rw [if_pos c_1, if_neg (fun q => c_3 q.1)]
            exact Or.inl ⟨rfl, Or.inl c_12⟩
          exact W.zret (v := 1) hx hb hr (bz_nar hpost) (fun t9 ht hW => ⟨⟨1, (), rfl, hpost, by rw [ht]; exact hP, va_K.moved hW.alike hK, hD⟩, hS.F ht⟩) hS.2.2 de_M_isBroken_171
        · skip
          refine lv_lload hx hb de_M_isBroken_154 (lv_at hl 0 rfl) ?_
          refine lv_aload_n hx hb de_M_isBroken_156 rfl (lv_at hl 2 rfl) ?_
          refine va_get (D := (dC, dI)) (ci := 9) (v := .ref (ad 20)) (C := "StabilitySumsModel") (T := TB_M) (N := 33) hx hb hts ui_M hown hK hP 0 rfl rfl 26 (by decide) (hts _ uw_722) (fun _ h9 => h9) rfl de_M_isBroken_157 ?_
          refine lv_iload_n hx hb de_M_isBroken_160 rfl (lv_at hl 3 rfl) ?_
          refine rw_lald (f := t_5.1 18) (j := i) hx hb hK hP 20 0 rfl rfl (by omega) (by decide) de_M_isBroken_161 ?_
          refine rw_le (tgt := 170) hx hb de_M_isBroken_162 de_M_isBroken_163 (by decide) (fun c_13 => ?_) (fun c_13 => ?_)
          · skip
            refine lv_iconst (v := 0) hx hb de_M_isBroken_170 (by decide) ?_
            have hfin : t_5 = y_bt i t := by
              rw [y_bt, if_pos c_1, if_neg (fun q => c_3 q.1)]; exact et_5
            rw [hfin] at hP hD
            subst hQ
            have hpost : bz 0 (y_bp i t) := by
              subst ev_7
              subst hw_6
              subst et_5
              have hce : y_ce (y_U (t.2.1 0 i) t) (y_D (t.2.1 0 i) t) = y_fl (y_U (t.2.1 0 i) t) (y_D (t.2.1 0 i) t) := if_pos c_8
              unfold y_bp; rw [if_pos c_1, if_neg (fun q => c_3 q.1)]
              exact Or.inr ⟨rfl, fun z => z.elim c_12 (fun q => q (by rw [hce]; exact c_13))⟩
            exact W.zret (v := 0) hx hb hr (bz_nar hpost) (fun t9 ht hW => ⟨⟨0, (), rfl, hpost, by rw [ht]; exact hP, va_K.moved hW.alike hK, hD⟩, hS.F ht⟩) hS.2.2 de_M_isBroken_171
          · skip
            refine lv_iconst (v := 1) hx hb de_M_isBroken_166 (by decide) ?_
            refine lv_goto (tgt := 171) hx hb de_M_isBroken_167 (by decide) ?_
            have hfin : t_5 = y_bt i t := by
              rw [y_bt, if_pos c_1, if_neg (fun q => c_3 q.1)]; exact et_5
            rw [hfin] at hP hD
            subst hQ
            have hpost : bz 1 (y_bp i t) := by
              subst ev_7
              subst hw_6
              subst et_5
              have hce : y_ce (y_U (t.2.1 0 i) t) (y_D (t.2.1 0 i) t) = y_fl (y_U (t.2.1 0 i) t) (y_D (t.2.1 0 i) t) := if_pos c_8
              unfold y_bp; rw [if_pos c_1, if_neg (fun q => c_3 q.1)]
              exact Or.inl ⟨rfl, Or.inr (by rw [hce]; exact c_13)⟩
            exact W.zret (v := 1) hx hb hr (bz_nar hpost) (fun t9 ht hW => ⟨⟨1, (), rfl, hpost, by rw [ht]; exact hP, va_K.moved hW.alike hK, hD⟩, hS.F ht⟩) hS.2.2 de_M_isBroken_171
    · skip
      have c_3 := bz_t hw_2 c_3
      refine lv_aload_n hx hb de_M_isBroken_86 rfl (lv_at hl 0 rfl) ?_
      refine lv_iconst (v := 0) hx hb de_M_isBroken_87 (by decide) ?_
      refine cl_Vl (As := [.int 0]) (rest := []) ⟨hx, hb, hml, hown, hts⟩ (mt_M_sum l dC dI ad T t 0 (show IvM t from (by refine ⟨?_, ?_, ?_, ?_, ?_⟩ <;> omega))) (cwV 1 hts (uw_V uw_811 uw_813 uw_14 uw_36 uw_814) rfl rfl rfl (by decide +kernel) ⟨Nat.le_of_ble_eq_true rfl, Nat.le_of_ble_eq_true rfl⟩) (va_recv hK hP (ci := 9) (q0 := 0) rfl rfl) rfl hl.1 rfl (Nat.le_of_ble_eq_true rfl) de_M_isBroken_88 ⟨Nat.zero_le _, Nat.zero_le _⟩ hK hN hP hD hS hA (fun r_14 _ H locs hw_14 hP hD hS => ?_)
      have hw_14 : r_14 = y_S 0 t := hw_14
      refine lv_lconst (v := 0) hx hb de_M_isBroken_91 (by decide) ?_
      refine rw_ne (tgt := 98) hx hb de_M_isBroken_92 de_M_isBroken_93 (by decide) (fun c_15 => ?_) (fun c_15 => ?_)
      · skip
        refine lv_aload_n hx hb de_M_isBroken_98 rfl (lv_at hl 0 rfl) ?_
        refine lv_aload_n hx hb de_M_isBroken_99 rfl (lv_at hl 0 rfl) ?_
        refine va_get (D := (dC, dI)) (ci := 9) (v := .ref (ad 17)) (C := "StabilitySumsModel") (T := TB_M) (N := 33) hx hb hts ui_M hown hK hP 0 rfl rfl 23 (by decide) (hts _ uw_719) (fun _ h9 => h9) rfl de_M_isBroken_100 ?_
        refine lv_iload_n hx hb de_M_isBroken_103 rfl (lv_at hl 1 rfl) ?_
        refine rw_iald (f := t.2.1 0) (j := i) hx hb hK hP 17 1 rfl rfl (by omega) (by decide) de_M_isBroken_104 ?_
        refine cl_Vv (As := [.int (t.2.1 0 i)]) (rest := []) ⟨hx, hb, hml, hown, hts⟩ (mt_M_reckon l dC dI ad T t (t.2.1 0 i) (show IvM t from (by refine ⟨?_, ?_, ?_, ?_, ?_⟩ <;> omega))) (cwV 1 hts (uw_V uw_815 uw_817 uw_15 uw_36 uw_818) rfl rfl rfl (by decide +kernel) ⟨Nat.le_of_ble_eq_true rfl, Nat.le_of_ble_eq_true rfl⟩) (va_recv hK hP (ci := 9) (q0 := 0) rfl rfl) rfl hl.1 rfl (Nat.le_of_ble_eq_true rfl) de_M_isBroken_105 ⟨Nat.zero_le _, Nat.zero_le _⟩ hK hN hP hD hS hA (fun _ H locs hw_16 hP hD hS => ?_)
        obtain ⟨t_17, et_17⟩ : ∃ z, z = y_rk (t.2.1 0 i) t := ⟨_, rfl⟩
        have hP : va_P (dC, dI) CLS (wM ad T t_17) H := by rw [et_17]; exact hP
        have hD : va_D A (wM ad T t_17) := by rw [et_17]; exact hD
        obtain ⟨_, _, _, _, _, _⟩ : N6p t_17 t := by rw [et_17]; exact nsix rfl
        refine lv_aload_n hx hb de_M_isBroken_108 rfl (lv_at hl 0 rfl) ?_
        refine va_get (D := (dC, dI)) (ci := 9) (v := .long (t_17.2.2.1 2)) (C := "StabilitySumsModel") (T := TB_M) (N := 33) hx hb hts ui_M hown hK hP 0 rfl rfl 31 (by decide) (hts _ uw_727) (fun _ h9 => h9) rfl de_M_isBroken_109 ?_
        refine lv_aload_n hx hb de_M_isBroken_112 rfl (lv_at hl 0 rfl) ?_
        refine va_get (D := (dC, dI)) (ci := 9) (v := .long (t_17.2.2.1 3)) (C := "StabilitySumsModel") (T := TB_M) (N := 33) hx hb hts ui_M hown hK hP 0 rfl rfl 32 (by decide) (hts _ uw_728) (fun _ h9 => h9) rfl de_M_isBroken_113 ?_
        refine cl_Sl (As := [.long (t_17.2.2.1 2), .long (t_17.2.2.1 3)]) (rest := []) ⟨hx, hb, hml, hown, hts⟩ (mt_M_floor l dC dI ad T t_17 (t_17.2.2.1 2) (t_17.2.2.1 3) (fun z => hz.2.2 _ c_1 (fun q => c_15 (by rw [hw_14]; exact q.2)) (by rw [et_17] at z; exact z))) (va_cwS 2 hts (uw_S uw_831 uw_832 uw_36 uw_833) rfl rfl rfl (by decide +kernel) ⟨Nat.le_of_ble_eq_true rfl, Nat.le_of_ble_eq_true rfl⟩) rfl hl.1 rfl (Nat.le_of_ble_eq_true rfl) de_M_isBroken_116 ⟨Nat.zero_le _, Nat.zero_le _⟩ hK hN hP hD hS hA (fun r_18 _ H locs hw_18 hP hD hS => ?_)
        have hw_18 : r_18 = y_fl (t_17.2.2.1 2) (t_17.2.2.1 3) := hw_18
        refine lv_lstore_n (lv' := [(2, .long r_18), (0, .ref (ad 0)), (1, .int (nI i))]) hx hb de_M_isBroken_119 rfl hl (by decide) rfl (fun ls hl => ?_)
        refine lv_lload_n hx hb de_M_isBroken_120 rfl (lv_at hl 0 rfl) ?_
        refine lv_aload_n hx hb de_M_isBroken_121 rfl (lv_at hl 1 rfl) ?_
        refine va_get (D := (dC, dI)) (ci := 9) (v := .long (t_17.2.2.1 3)) (C := "StabilitySumsModel") (T := TB_M) (N := 33) hx hb hts ui_M hown hK hP 0 rfl rfl 32 (by decide) (hts _ uw_728) (fun _ h9 => h9) rfl de_M_isBroken_122 ?_
        refine lv_lmul hx hb de_M_isBroken_125 ?_
        refine lv_topl (fun v_19 ev_19 => ?_)
        have ev_19 : v_19 = r_18 * (t_17.2.2.1 3) := ev_19
        refine lv_aload_n hx hb de_M_isBroken_126 rfl (lv_at hl 1 rfl) ?_
        refine va_get (D := (dC, dI)) (ci := 9) (v := .long (t_17.2.2.1 2)) (C := "StabilitySumsModel") (T := TB_M) (N := 33) hx hb hts ui_M hown hK hP 0 rfl rfl 31 (by decide) (hts _ uw_727) (fun _ h9 => h9) rfl de_M_isBroken_127 ?_
        refine rw_ne (tgt := 138) hx hb de_M_isBroken_130 de_M_isBroken_131 (by decide) (fun c_20 => ?_) (fun c_20 => ?_)
        · skip
          refine lv_lload_n hx hb de_M_isBroken_138 rfl (lv_at hl 0 rfl) ?_
          refine lv_lconst (v := 1) hx hb de_M_isBroken_139 (by decide) ?_
          refine lv_ladd hx hb de_M_isBroken_140 ?_
          refine lv_topl (fun v_21 ev_21 => ?_)
          have ev_21 : v_21 = r_18 + 1 := ev_21
          refine lv_lstore (lv' := [(4, .long v_21), (2, .long r_18), (0, .ref (ad 0)), (1, .int (nI i))]) hx hb de_M_isBroken_141 hl (by decide) rfl (fun ls hl => ?_)
          refine lv_lload_n hx hb de_M_isBroken_143 rfl (lv_at hl 1 rfl) ?_
          refine lv_aload_n hx hb de_M_isBroken_144 rfl (lv_at hl 2 rfl) ?_
          refine va_get (D := (dC, dI)) (ci := 9) (v := .ref (ad 19)) (C := "StabilitySumsModel") (T := TB_M) (N := 33) hx hb hts ui_M hown hK hP 0 rfl rfl 25 (by decide) (hts _ uw_721) (fun _ h9 => h9) rfl de_M_isBroken_145 ?_
          refine lv_iload_n hx hb de_M_isBroken_148 rfl (lv_at hl 3 rfl) ?_
          refine rw_lald (f := t_17.1 17) (j := i) hx hb hK hP 19 0 rfl rfl (by omega) (by decide) de_M_isBroken_149 ?_
          refine rw_lt (tgt := 166) hx hb de_M_isBroken_150 de_M_isBroken_151 (by decide) (fun c_22 => ?_) (fun c_22 => ?_)
          · skip
            refine lv_iconst (v := 1) hx hb de_M_isBroken_166 (by decide) ?_
            refine lv_goto (tgt := 171) hx hb de_M_isBroken_167 (by decide) ?_
            have hfin : t_17 = y_bt i t := by
              rw [y_bt, if_pos c_1, if_neg (fun q => c_15 (by rw [hw_14]; exact q.2))]; exact et_17
            rw [hfin] at hP hD
            subst hQ
            have hpost : bz 1 (y_bp i t) := by
              subst hw_14
              subst ev_19
              subst ev_21
              subst hw_18
              subst et_17
              have hce : y_ce (y_U (t.2.1 0 i) t) (y_D (t.2.1 0 i) t) = y_fl (y_U (t.2.1 0 i) t) (y_D (t.2.1 0 i) t) + 1 := if_neg c_20
              unfold y_bp; rw [if_pos c_1, if_neg (fun q => c_15 q.2)]
              exact Or.inl ⟨rfl, Or.inl c_22⟩
            exact W.zret (v := 1) hx hb hr (bz_nar hpost) (fun t9 ht hW => ⟨⟨1, (), rfl, hpost, by rw [ht]; exact hP, va_K.moved hW.alike hK, hD⟩, hS.F ht⟩) hS.2.2 de_M_isBroken_171
          · skip
            refine lv_lload hx hb de_M_isBroken_154 (lv_at hl 0 rfl) ?_
            refine lv_aload_n hx hb de_M_isBroken_156 rfl (lv_at hl 2 rfl) ?_
            refine va_get (D := (dC, dI)) (ci := 9) (v := .ref (ad 20)) (C := "StabilitySumsModel") (T := TB_M) (N := 33) hx hb hts ui_M hown hK hP 0 rfl rfl 26 (by decide) (hts _ uw_722) (fun _ h9 => h9) rfl de_M_isBroken_157 ?_
            refine lv_iload_n hx hb de_M_isBroken_160 rfl (lv_at hl 3 rfl) ?_
            refine rw_lald (f := t_17.1 18) (j := i) hx hb hK hP 20 0 rfl rfl (by omega) (by decide) de_M_isBroken_161 ?_
            refine rw_le (tgt := 170) hx hb de_M_isBroken_162 de_M_isBroken_163 (by decide) (fun c_23 => ?_) (fun c_23 => ?_)
            · skip
              refine lv_iconst (v := 0) hx hb de_M_isBroken_170 (by decide) ?_
              have hfin : t_17 = y_bt i t := by
                rw [y_bt, if_pos c_1, if_neg (fun q => c_15 (by rw [hw_14]; exact q.2))]; exact et_17
              rw [hfin] at hP hD
              subst hQ
              have hpost : bz 0 (y_bp i t) := by
                subst hw_14
                subst ev_19
                subst ev_21
                subst hw_18
                subst et_17
                have hce : y_ce (y_U (t.2.1 0 i) t) (y_D (t.2.1 0 i) t) = y_fl (y_U (t.2.1 0 i) t) (y_D (t.2.1 0 i) t) + 1 := if_neg c_20
                unfold y_bp; rw [if_pos c_1, if_neg (fun q => c_15 q.2)]
                exact Or.inr ⟨rfl, fun z => z.elim c_22 (fun q => q (by rw [hce]; exact c_23))⟩
              exact W.zret (v := 0) hx hb hr (bz_nar hpost) (fun t9 ht hW => ⟨⟨0, (), rfl, hpost, by rw [ht]; exact hP, va_K.moved hW.alike hK, hD⟩, hS.F ht⟩) hS.2.2 de_M_isBroken_171
            · skip
              refine lv_iconst (v := 1) hx hb de_M_isBroken_166 (by decide) ?_
              refine lv_goto (tgt := 171) hx hb de_M_isBroken_167 (by decide) ?_
              have hfin : t_17 = y_bt i t := by
                rw [y_bt, if_pos c_1, if_neg (fun q => c_15 (by rw [hw_14]; exact q.2))]; exact et_17
              rw [hfin] at hP hD
              subst hQ
              have hpost : bz 1 (y_bp i t) := by
                subst hw_14
                subst ev_19
                subst ev_21
                subst hw_18
                subst et_17
                have hce : y_ce (y_U (t.2.1 0 i) t) (y_D (t.2.1 0 i) t) = y_fl (y_U (t.2.1 0 i) t) (y_D (t.2.1 0 i) t) + 1 := if_neg c_20
                unfold y_bp; rw [if_pos c_1, if_neg (fun q => c_15 q.2)]
                exact Or.inl ⟨rfl, Or.inr (by rw [hce]; exact c_23)⟩
              exact W.zret (v := 1) hx hb hr (bz_nar hpost) (fun t9 ht hW => ⟨⟨1, (), rfl, hpost, by rw [ht]; exact hP, va_K.moved hW.alike hK, hD⟩, hS.F ht⟩) hS.2.2 de_M_isBroken_171
        · skip
          refine lv_lload_n hx hb de_M_isBroken_134 rfl (lv_at hl 0 rfl) ?_
          refine lv_goto (tgt := 141) hx hb de_M_isBroken_135 (by decide) ?_
          refine lv_lstore (lv' := [(4, .long r_18), (2, .long r_18), (0, .ref (ad 0)), (1, .int (nI i))]) hx hb de_M_isBroken_141 hl (by decide) rfl (fun ls hl => ?_)
          refine lv_lload_n hx hb de_M_isBroken_143 rfl (lv_at hl 1 rfl) ?_
          refine lv_aload_n hx hb de_M_isBroken_144 rfl (lv_at hl 2 rfl) ?_
          refine va_get (D := (dC, dI)) (ci := 9) (v := .ref (ad 19)) (C := "StabilitySumsModel") (T := TB_M) (N := 33) hx hb hts ui_M hown hK hP 0 rfl rfl 25 (by decide) (hts _ uw_721) (fun _ h9 => h9) rfl de_M_isBroken_145 ?_
          refine lv_iload_n hx hb de_M_isBroken_148 rfl (lv_at hl 3 rfl) ?_
          refine rw_lald (f := t_17.1 17) (j := i) hx hb hK hP 19 0 rfl rfl (by omega) (by decide) de_M_isBroken_149 ?_
          refine rw_lt (tgt := 166) hx hb de_M_isBroken_150 de_M_isBroken_151 (by decide) (fun c_24 => ?_) (fun c_24 => ?_)
          · skip
            refine lv_iconst (v := 1) hx hb de_M_isBroken_166 (by decide) ?_
            refine lv_goto (tgt := 171) hx hb de_M_isBroken_167 (by decide) ?_
            have hfin : t_17 = y_bt i t := by
              rw [y_bt, if_pos c_1, if_neg (fun q => c_15 (by rw [hw_14]; exact q.2))]; exact et_17
            rw [hfin] at hP hD
            subst hQ
            have hpost : bz 1 (y_bp i t) := by
              subst hw_14
              subst ev_19
              subst hw_18
              subst et_17
              have hce : y_ce (y_U (t.2.1 0 i) t) (y_D (t.2.1 0 i) t) = y_fl (y_U (t.2.1 0 i) t) (y_D (t.2.1 0 i) t) := if_pos c_20
              unfold y_bp; rw [if_pos c_1, if_neg (fun q => c_15 q.2)]
              exact Or.inl ⟨rfl, Or.inl c_24⟩
            exact W.zret (v := 1) hx hb hr (bz_nar hpost) (fun t9 ht hW => ⟨⟨1, (), rfl, hpost, by rw [ht]; exact hP, va_K.moved hW.alike hK, hD⟩, hS.F ht⟩) hS.2.2 de_M_isBroken_171
          · skip
            refine lv_lload hx hb de_M_isBroken_154 (lv_at hl 0 rfl) ?_
            refine lv_aload_n hx hb de_M_isBroken_156 rfl (lv_at hl 2 rfl) ?_
            refine va_get (D := (dC, dI)) (ci := 9) (v := .ref (ad 20)) (C := "StabilitySumsModel") (T := TB_M) (N := 33) hx hb hts ui_M hown hK hP 0 rfl rfl 26 (by decide) (hts _ uw_722) (fun _ h9 => h9) rfl de_M_isBroken_157 ?_
            refine lv_iload_n hx hb de_M_isBroken_160 rfl (lv_at hl 3 rfl) ?_
            refine rw_lald (f := t_17.1 18) (j := i) hx hb hK hP 20 0 rfl rfl (by omega) (by decide) de_M_isBroken_161 ?_
            refine rw_le (tgt := 170) hx hb de_M_isBroken_162 de_M_isBroken_163 (by decide) (fun c_25 => ?_) (fun c_25 => ?_)
            · skip
              refine lv_iconst (v := 0) hx hb de_M_isBroken_170 (by decide) ?_
              have hfin : t_17 = y_bt i t := by
                rw [y_bt, if_pos c_1, if_neg (fun q => c_15 (by rw [hw_14]; exact q.2))]; exact et_17
              rw [hfin] at hP hD
              subst hQ
              have hpost : bz 0 (y_bp i t) := by
                subst hw_14
                subst ev_19
                subst hw_18
                subst et_17
                have hce : y_ce (y_U (t.2.1 0 i) t) (y_D (t.2.1 0 i) t) = y_fl (y_U (t.2.1 0 i) t) (y_D (t.2.1 0 i) t) := if_pos c_20
                unfold y_bp; rw [if_pos c_1, if_neg (fun q => c_15 q.2)]
                exact Or.inr ⟨rfl, fun z => z.elim c_24 (fun q => q (by rw [hce]; exact c_25))⟩
              exact W.zret (v := 0) hx hb hr (bz_nar hpost) (fun t9 ht hW => ⟨⟨0, (), rfl, hpost, by rw [ht]; exact hP, va_K.moved hW.alike hK, hD⟩, hS.F ht⟩) hS.2.2 de_M_isBroken_171
            · skip
              refine lv_iconst (v := 1) hx hb de_M_isBroken_166 (by decide) ?_
              refine lv_goto (tgt := 171) hx hb de_M_isBroken_167 (by decide) ?_
              have hfin : t_17 = y_bt i t := by
                rw [y_bt, if_pos c_1, if_neg (fun q => c_15 (by rw [hw_14]; exact q.2))]; exact et_17
              rw [hfin] at hP hD
              subst hQ
              have hpost : bz 1 (y_bp i t) := by
                subst hw_14
                subst ev_19
                subst hw_18
                subst et_17
                have hce : y_ce (y_U (t.2.1 0 i) t) (y_D (t.2.1 0 i) t) = y_fl (y_U (t.2.1 0 i) t) (y_D (t.2.1 0 i) t) := if_pos c_20
                unfold y_bp; rw [if_pos c_1, if_neg (fun q => c_15 q.2)]
                exact Or.inl ⟨rfl, Or.inr (by rw [hce]; exact c_25)⟩
              exact W.zret (v := 1) hx hb hr (bz_nar hpost) (fun t9 ht hW => ⟨⟨1, (), rfl, hpost, by rw [ht]; exact hP, va_K.moved hW.alike hK, hD⟩, hS.F ht⟩) hS.2.2 de_M_isBroken_171
      · skip
        refine lv_iconst (v := 1) hx hb de_M_isBroken_96 (by decide) ?_
        have hfin : t = y_bt i t := by
          rw [y_bt, if_pos c_1, if_pos ⟨c_3, by rw [← hw_14]; exact c_15⟩]
        rw [hfin] at hP hD
        subst hQ
        have hpost : bz 1 (y_bp i t) := by
          subst hw_14
          unfold y_bp; rw [if_pos c_1, if_pos ⟨c_3, c_15⟩]; exact Or.inl ⟨rfl, trivial⟩
        exact W.zret (v := 1) hx hb hr (bz_nar hpost) (fun t9 ht hW => ⟨⟨1, (), rfl, hpost, by rw [ht]; exact hP, va_K.moved hW.alike hK, hD⟩, hS.F ht⟩) hS.2.2 de_M_isBroken_97
  · skip
    refine lv_aload_n hx hb de_M_isBroken_11 rfl (lv_at hl 0 rfl) ?_
    refine va_get (D := (dC, dI)) (ci := 9) (v := .ref (ad 17)) (C := "StabilitySumsModel") (T := TB_M) (N := 33) hx hb hts ui_M hown hK hP 0 rfl rfl 23 (by decide) (hts _ uw_719) (fun _ h9 => h9) rfl de_M_isBroken_12 ?_
    refine lv_iload_n hx hb de_M_isBroken_15 rfl (lv_at hl 1 rfl) ?_
    refine rw_iald (f := t.2.1 0) (j := i) hx hb hK hP 17 1 rfl rfl (by omega) (by decide) de_M_isBroken_16 ?_
    refine lv_bipush (v := 8) hx hb de_M_isBroken_17 (by decide) ?_
    refine lv_icmp_ne (tgt := 35) hx hb de_M_isBroken_19 (by decide) (fun c_26 => ?_) (fun c_26 => ?_)
    · skip
      refine lv_aload_n hx hb de_M_isBroken_35 rfl (lv_at hl 0 rfl) ?_
      refine lv_aload_n hx hb de_M_isBroken_36 rfl (lv_at hl 0 rfl) ?_
      refine va_get (D := (dC, dI)) (ci := 9) (v := .ref (ad 18)) (C := "StabilitySumsModel") (T := TB_M) (N := 33) hx hb hts ui_M hown hK hP 0 rfl rfl 24 (by decide) (hts _ uw_720) (fun _ h9 => h9) rfl de_M_isBroken_37 ?_
      refine lv_iload_n hx hb de_M_isBroken_40 rfl (lv_at hl 1 rfl) ?_
      refine rw_lald (f := t.1 16) (j := i) hx hb hK hP 18 0 rfl rfl (by omega) (by decide) de_M_isBroken_41 ?_
      refine cl_Vl (As := [.long (t.1 16 i)]) (rest := []) ⟨hx, hb, hml, hown, hts⟩ (mt_M_bendingAt l dC dI ad T t (t.1 16 i) (show IvM t from (by refine ⟨?_, ?_, ?_, ?_, ?_⟩ <;> omega)) hz) (cwV 1 hts (uw_V uw_857 uw_859 uw_20 uw_36 uw_860) rfl rfl rfl (by decide +kernel) ⟨Nat.le_of_ble_eq_true rfl, Nat.le_of_ble_eq_true rfl⟩) (va_recv hK hP (ci := 9) (q0 := 0) rfl rfl) rfl hl.1 rfl (Nat.le_of_ble_eq_true rfl) de_M_isBroken_42 ⟨Nat.zero_le _, Nat.zero_le _⟩ hK hN hP hD hS hA (fun r_27 _ H locs hw_27 hP hD hS => ?_)
      have hw_27 : r_27 = y_bend (t.1 16 i) t := hw_27
      refine lv_lstore_n (lv' := [(2, .long r_27), (0, .ref (ad 0)), (1, .int (nI i))]) hx hb de_M_isBroken_45 rfl hl (by decide) rfl (fun ls hl => ?_)
      refine lv_lload_n hx hb de_M_isBroken_46 rfl (lv_at hl 0 rfl) ?_
      refine lv_aload_n hx hb de_M_isBroken_47 rfl (lv_at hl 1 rfl) ?_
      refine va_get (D := (dC, dI)) (ci := 9) (v := .ref (ad 19)) (C := "StabilitySumsModel") (T := TB_M) (N := 33) hx hb hts ui_M hown hK hP 0 rfl rfl 25 (by decide) (hts _ uw_721) (fun _ h9 => h9) rfl de_M_isBroken_48 ?_
      refine lv_iload_n hx hb de_M_isBroken_51 rfl (lv_at hl 2 rfl) ?_
      refine rw_lald (f := t.1 17) (j := i) hx hb hK hP 19 0 rfl rfl (by omega) (by decide) de_M_isBroken_52 ?_
      refine rw_lt (tgt := 68) hx hb de_M_isBroken_53 de_M_isBroken_54 (by decide) (fun c_28 => ?_) (fun c_28 => ?_)
      · skip
        refine lv_iconst (v := 1) hx hb de_M_isBroken_68 (by decide) ?_
        refine lv_goto (tgt := 73) hx hb de_M_isBroken_69 (by decide) ?_
        have hfin : t = y_bt i t := by
          rw [y_bt, if_neg c_1]
        rw [hfin] at hP hD
        subst hQ
        have hpost : bz 1 (y_bp i t) := by
          subst hw_27
          unfold y_bp; rw [if_neg c_1, if_neg c_26]
          exact Or.inl ⟨rfl, Or.inl c_28⟩
        exact W.zret (v := 1) hx hb hr (bz_nar hpost) (fun t9 ht hW => ⟨⟨1, (), rfl, hpost, by rw [ht]; exact hP, va_K.moved hW.alike hK, hD⟩, hS.F ht⟩) hS.2.2 de_M_isBroken_73
      · skip
        refine lv_lload_n hx hb de_M_isBroken_57 rfl (lv_at hl 0 rfl) ?_
        refine lv_aload_n hx hb de_M_isBroken_58 rfl (lv_at hl 1 rfl) ?_
        refine va_get (D := (dC, dI)) (ci := 9) (v := .ref (ad 20)) (C := "StabilitySumsModel") (T := TB_M) (N := 33) hx hb hts ui_M hown hK hP 0 rfl rfl 26 (by decide) (hts _ uw_722) (fun _ h9 => h9) rfl de_M_isBroken_59 ?_
        refine lv_iload_n hx hb de_M_isBroken_62 rfl (lv_at hl 2 rfl) ?_
        refine rw_lald (f := t.1 18) (j := i) hx hb hK hP 20 0 rfl rfl (by omega) (by decide) de_M_isBroken_63 ?_
        refine rw_le (tgt := 72) hx hb de_M_isBroken_64 de_M_isBroken_65 (by decide) (fun c_29 => ?_) (fun c_29 => ?_)
        · skip
          refine lv_iconst (v := 0) hx hb de_M_isBroken_72 (by decide) ?_
          have hfin : t = y_bt i t := by
            rw [y_bt, if_neg c_1]
          rw [hfin] at hP hD
          subst hQ
          have hpost : bz 0 (y_bp i t) := by
            subst hw_27
            unfold y_bp; rw [if_neg c_1, if_neg c_26]
            exact Or.inr ⟨rfl, fun z => z.elim c_28 (fun q => q (c_29))⟩
          exact W.zret (v := 0) hx hb hr (bz_nar hpost) (fun t9 ht hW => ⟨⟨0, (), rfl, hpost, by rw [ht]; exact hP, va_K.moved hW.alike hK, hD⟩, hS.F ht⟩) hS.2.2 de_M_isBroken_73
        · skip
          refine lv_iconst (v := 1) hx hb de_M_isBroken_68 (by decide) ?_
          refine lv_goto (tgt := 73) hx hb de_M_isBroken_69 (by decide) ?_
          have hfin : t = y_bt i t := by
            rw [y_bt, if_neg c_1]
          rw [hfin] at hP hD
          subst hQ
          have hpost : bz 1 (y_bp i t) := by
            subst hw_27
            unfold y_bp; rw [if_neg c_1, if_neg c_26]
            exact Or.inl ⟨rfl, Or.inr (c_29)⟩
          exact W.zret (v := 1) hx hb hr (bz_nar hpost) (fun t9 ht hW => ⟨⟨1, (), rfl, hpost, by rw [ht]; exact hP, va_K.moved hW.alike hK, hD⟩, hS.F ht⟩) hS.2.2 de_M_isBroken_73
    · skip
      refine lv_aload_n hx hb de_M_isBroken_22 rfl (lv_at hl 0 rfl) ?_
      refine lv_aload_n hx hb de_M_isBroken_23 rfl (lv_at hl 0 rfl) ?_
      refine va_get (D := (dC, dI)) (ci := 9) (v := .ref (ad 18)) (C := "StabilitySumsModel") (T := TB_M) (N := 33) hx hb hts ui_M hown hK hP 0 rfl rfl 24 (by decide) (hts _ uw_720) (fun _ h9 => h9) rfl de_M_isBroken_24 ?_
      refine lv_iload_n hx hb de_M_isBroken_27 rfl (lv_at hl 1 rfl) ?_
      refine rw_lald (f := t.1 16) (j := i) hx hb hK hP 18 0 rfl rfl (by omega) (by decide) de_M_isBroken_28 ?_
      refine cl_Vl (As := [.long (t.1 16 i)]) (rest := []) ⟨hx, hb, hml, hown, hts⟩ (mt_M_shearAt l dC dI ad T t (t.1 16 i) (show IvM t from (by refine ⟨?_, ?_, ?_, ?_, ?_⟩ <;> omega)) hz) (cwV 1 hts (uw_V uw_849 uw_851 uw_19 uw_36 uw_852) rfl rfl rfl (by decide +kernel) ⟨Nat.le_of_ble_eq_true rfl, Nat.le_of_ble_eq_true rfl⟩) (va_recv hK hP (ci := 9) (q0 := 0) rfl rfl) rfl hl.1 rfl (Nat.le_of_ble_eq_true rfl) de_M_isBroken_29 ⟨Nat.zero_le _, Nat.zero_le _⟩ hK hN hP hD hS hA (fun r_30 _ H locs hw_30 hP hD hS => ?_)
      have hw_30 : r_30 = y_shear (t.1 16 i) t := hw_30
      refine lv_goto (tgt := 45) hx hb de_M_isBroken_32 (by decide) ?_
      refine lv_lstore_n (lv' := [(2, .long r_30), (0, .ref (ad 0)), (1, .int (nI i))]) hx hb de_M_isBroken_45 rfl hl (by decide) rfl (fun ls hl => ?_)
      refine lv_lload_n hx hb de_M_isBroken_46 rfl (lv_at hl 0 rfl) ?_
      refine lv_aload_n hx hb de_M_isBroken_47 rfl (lv_at hl 1 rfl) ?_
      refine va_get (D := (dC, dI)) (ci := 9) (v := .ref (ad 19)) (C := "StabilitySumsModel") (T := TB_M) (N := 33) hx hb hts ui_M hown hK hP 0 rfl rfl 25 (by decide) (hts _ uw_721) (fun _ h9 => h9) rfl de_M_isBroken_48 ?_
      refine lv_iload_n hx hb de_M_isBroken_51 rfl (lv_at hl 2 rfl) ?_
      refine rw_lald (f := t.1 17) (j := i) hx hb hK hP 19 0 rfl rfl (by omega) (by decide) de_M_isBroken_52 ?_
      refine rw_lt (tgt := 68) hx hb de_M_isBroken_53 de_M_isBroken_54 (by decide) (fun c_31 => ?_) (fun c_31 => ?_)
      · skip
        refine lv_iconst (v := 1) hx hb de_M_isBroken_68 (by decide) ?_
        refine lv_goto (tgt := 73) hx hb de_M_isBroken_69 (by decide) ?_
        have hfin : t = y_bt i t := by
          rw [y_bt, if_neg c_1]
        rw [hfin] at hP hD
        subst hQ
        have hpost : bz 1 (y_bp i t) := by
          subst hw_30
          unfold y_bp; rw [if_neg c_1, if_pos c_26]
          exact Or.inl ⟨rfl, Or.inl c_31⟩
        exact W.zret (v := 1) hx hb hr (bz_nar hpost) (fun t9 ht hW => ⟨⟨1, (), rfl, hpost, by rw [ht]; exact hP, va_K.moved hW.alike hK, hD⟩, hS.F ht⟩) hS.2.2 de_M_isBroken_73
      · skip
        refine lv_lload_n hx hb de_M_isBroken_57 rfl (lv_at hl 0 rfl) ?_
        refine lv_aload_n hx hb de_M_isBroken_58 rfl (lv_at hl 1 rfl) ?_
        refine va_get (D := (dC, dI)) (ci := 9) (v := .ref (ad 20)) (C := "StabilitySumsModel") (T := TB_M) (N := 33) hx hb hts ui_M hown hK hP 0 rfl rfl 26 (by decide) (hts _ uw_722) (fun _ h9 => h9) rfl de_M_isBroken_59 ?_
        refine lv_iload_n hx hb de_M_isBroken_62 rfl (lv_at hl 2 rfl) ?_
        refine rw_lald (f := t.1 18) (j := i) hx hb hK hP 20 0 rfl rfl (by omega) (by decide) de_M_isBroken_63 ?_
        refine rw_le (tgt := 72) hx hb de_M_isBroken_64 de_M_isBroken_65 (by decide) (fun c_32 => ?_) (fun c_32 => ?_)
        · skip
          refine lv_iconst (v := 0) hx hb de_M_isBroken_72 (by decide) ?_
          have hfin : t = y_bt i t := by
            rw [y_bt, if_neg c_1]
          rw [hfin] at hP hD
          subst hQ
          have hpost : bz 0 (y_bp i t) := by
            subst hw_30
            unfold y_bp; rw [if_neg c_1, if_pos c_26]
            exact Or.inr ⟨rfl, fun z => z.elim c_31 (fun q => q (c_32))⟩
          exact W.zret (v := 0) hx hb hr (bz_nar hpost) (fun t9 ht hW => ⟨⟨0, (), rfl, hpost, by rw [ht]; exact hP, va_K.moved hW.alike hK, hD⟩, hS.F ht⟩) hS.2.2 de_M_isBroken_73
        · skip
          refine lv_iconst (v := 1) hx hb de_M_isBroken_68 (by decide) ?_
          refine lv_goto (tgt := 73) hx hb de_M_isBroken_69 (by decide) ?_
          have hfin : t = y_bt i t := by
            rw [y_bt, if_neg c_1]
          rw [hfin] at hP hD
          subst hQ
          have hpost : bz 1 (y_bp i t) := by
            subst hw_30
            unfold y_bp; rw [if_neg c_1, if_pos c_26]
            exact Or.inl ⟨rfl, Or.inr (c_32)⟩
          exact W.zret (v := 1) hx hb hr (bz_nar hpost) (fun t9 ht hW => ⟨⟨1, (), rfl, hpost, by rw [ht]; exact hP, va_K.moved hW.alike hK, hD⟩, hS.F ht⟩) hS.2.2 de_M_isBroken_73
set_option maxHeartbeats 4000000 in
set_option maxRecDepth 100000 in
theorem mt_M_broken0 (l : Launch) (dC : Nat → ClassId) (dI : Nat → Nat → Nat) (ad : Nat → Nat) (T : Nat → ClassId) (t : St)  (hI : IvM t) (hz : HZ t) (sz : Nat) : Met l yn_M_broken0 (.code yn_M_broken0 cd_M_broken0 2 (some .int) :: UW) ({ frames := 3, cells := 0, slots := 0, locals := 78 } : Room) (va_Pc [.ref (ad 0)] (Pw (dC, dI) CLS (TY T) (wM ad T t) sz)) (va_Qi (fun (r : Int32) (_ : Unit) => r = nI (y_bn t)) (Bw (dC, dI) CLS (TY T) (fun _ : Unit => (wM ad T (y_bs t))) (va_A (wM ad T t) sz)) (va_A (wM ad T t) sz)) 0 0 (va_A (wM ad T t) sz) := by
  refine Met.ofW (cc := cd_M_broken0) (maxL := 2) (ret := (some .int)) (by decide) rfl ?_
  intro p e s m args below meth c s₁ B hml hv
  obtain ⟨rfl, hsz, hP, hK, hD0, hN⟩ := hv
  have hx := B.exec
  have hb := B.bytes
  have hr := B.returns
  have hts : ∀ w ∈ UW, w.before _ s = true := fun w h => atoms_spec (ws := .code yn_M_broken0 cd_M_broken0 2 (some .int) :: UW) B.pre w (List.mem_cons_of_mem _ h)
  have hown : s.vm.findClass "StabilitySumsModel" = some m.cls := findClass_of_methodNamed B.named
  have hlocks := B.notSynchronized
  subst hsz
  have hD := hD0.self (sz := s.heap.size)
  generalize hAe : va_A (wM ad T t) s.heap.size = A at hD ⊢
  have hA : ∀ q : Nat, s.heap.size ≤ q → A q := fun q h => by rw [← hAe]; exact Or.inr h
  have hS : va_S A s.heap s.heap [] := va_S.rf
  have hl := lv_entry ([.ref (ad 0)]) (n := 2) (Nat.le_of_ble_eq_true rfl)
  rw [lg_entry_eq]
  generalize (lg_sl ([.ref (ad 0)]) ++ List.replicate (2 - (lg_sl ([.ref (ad 0)])).length) Slot.unset).toArray = ls at hl ⊢
  have hl : lv_has ls 2 [(0, .ref (ad 0))] := hl
  generalize hQ : MQ below _ _ s 0 0 A = Q
  obtain ⟨hI1, hI2, hI3, hI4, hI5⟩ := hI
  have join_24 : ∀ (i : Nat) (t1 : St), (N6p t1 t) → (i ≤ t.2.2.2 4) → ((if i < t.2.2.2 4 then i + 1 else 0, t1) = y_lb (t.2.2.2 4) 0 t) → ∀ (H : Heap) (locs : List Loc) (ls : Array Slot), va_P (dC, dI) CLS (wM ad T t1) H → va_D A (wM ad T t1) → va_S A s.heap H locs → lv_has ls 2 [(0, .ref (ad 0)), (1, .int (nI i))] → W p l e (headSpec (.code yn_M_broken0 cd_M_broken0 2 (some .int) :: UW) ({ frames := 3, cells := 0, slots := 0, locals := 78 } : Room)).room s m ([.ref (ad 0)] : List Value).toArray below meth c H locs 0 0 Q (F0 m 24 ls []) := by
    intro i t1 hk hi8 hr8 H locs ls hP hD hS hl
    obtain ⟨_, _, _, _, _, _⟩ := hk
    refine lv_iload_n hx hb de_M_broken0_24 rfl (lv_at hl 1 rfl) ?_
    refine lv_aload_n hx hb de_M_broken0_25 rfl (lv_at hl 0 rfl) ?_
    refine va_get (D := (dC, dI)) (ci := 9) (v := .int (nI (t1.2.2.2 4))) (C := "StabilitySumsModel") (T := TB_M) (N := 33) hx hb hts ui_M hown hK hP 0 rfl rfl 22 (by decide) (hts _ uw_718) (fun _ h9 => h9) rfl de_M_broken0_26 ?_
    refine lv_icmp_ge (tgt := 38) hx hb de_M_broken0_29 (by decide) (fun c_1 => ?_) (fun c_1 => ?_)
    · skip
      have c_1 : (t1.2.2.2 4) ≤ i := (nI_leI (a := t1.2.2.2 4) (b := i) (by omega) (by omega)).mp c_1
      refine lv_iconst (v := 0) hx hb de_M_broken0_38 (by decide) ?_
      have hfin : t1 = y_bs t := by
        show t1 = (y_lb (t.2.2.2 4) 0 t).2
        rw [← hr8]
      rw [hfin] at hP hD
      subst hQ
      have hpost : (0 : Int32) = nI (y_bn t) := by
        show _ = nI (y_lb (t.2.2.2 4) 0 t).1
        rw [← hr8]
        first | (rw [if_pos (by omega)]; done) | (rw [if_neg (by omega)]; rfl)
      exact W.iret (v := 0) hx hb hr (fun t9 ht hW => ⟨⟨0, (), rfl, hpost, by rw [ht]; exact hP, va_K.moved hW.alike hK, hD⟩, hS.F ht⟩) hS.2.2 de_M_broken0_39
    · skip
      have c_1 : ¬ ((t1.2.2.2 4) ≤ i) := fun z => c_1 ((nI_leI (a := t1.2.2.2 4) (b := i) (by omega) (by omega)).mpr z)
      refine lv_iload_n hx hb de_M_broken0_32 rfl (lv_at hl 1 rfl) ?_
      refine lv_iconst (v := 1) hx hb de_M_broken0_33 (by decide) ?_
      refine lv_iadd hx hb de_M_broken0_34 ?_
      refine lv_topi (fun v_2 ev_2 => ?_)
      have ev_2 : v_2 = (nI (i + 1)) := ev_2.trans (nI_add i 1)
      subst ev_2
      refine lv_goto (tgt := 39) hx hb de_M_broken0_35 (by decide) ?_
      have hfin : t1 = y_bs t := by
        show t1 = (y_lb (t.2.2.2 4) 0 t).2
        rw [← hr8]
      rw [hfin] at hP hD
      subst hQ
      have hpost : ((nI (i + 1)) : Int32) = nI (y_bn t) := by
        show _ = nI (y_lb (t.2.2.2 4) 0 t).1
        rw [← hr8]
        first | (rw [if_pos (by omega)]; done) | (rw [if_neg (by omega)]; rfl)
      exact W.iret (v := (nI (i + 1))) hx hb hr (fun t9 ht hW => ⟨⟨(nI (i + 1)), (), rfl, hpost, by rw [ht]; exact hP, va_K.moved hW.alike hK, hD⟩, hS.F ht⟩) hS.2.2 de_M_broken0_39
  refine lv_iconst (v := 0) hx hb de_M_broken0_0 (by decide) ?_
  refine lv_istore_n (lv' := [(1, .int 0), (0, .ref (ad 0))]) hx hb de_M_broken0_1 rfl hl (by decide) rfl (fun ls hl => ?_)
  have loop_2 : ∀ (n : Nat) (i : Nat) (t1 : St), (i + n = t.2.2.2 4) → (N6p t1 t) → (HZ t1) → (y_lb n i t1 = y_lb (t.2.2.2 4) 0 t) → ∀ (H : Heap) (locs : List Loc) (ls : Array Slot), va_P (dC, dI) CLS (wM ad T t1) H → va_D A (wM ad T t1) → va_S A s.heap H locs → lv_has ls 2 [(0, .ref (ad 0)), (1, .int (nI i))] → W p l e (headSpec (.code yn_M_broken0 cd_M_broken0 2 (some .int) :: UW) ({ frames := 3, cells := 0, slots := 0, locals := 78 } : Room)).room s m ([.ref (ad 0)] : List Value).toArray below meth c H locs 0 0 Q (F0 m 2 ls []) := by
    intro n
    induction n with
    | zero =>
      intro i t1 hi hk hz1 hq H locs ls hP hD hS hl
      obtain ⟨_, _, _, _, _, _⟩ := hk
      refine lv_iload_n hx hb de_M_broken0_2 rfl (lv_at hl 1 rfl) ?_
      refine lv_aload_n hx hb de_M_broken0_3 rfl (lv_at hl 0 rfl) ?_
      refine va_get (D := (dC, dI)) (ci := 9) (v := .int (nI (t1.2.2.2 4))) (C := "StabilitySumsModel") (T := TB_M) (N := 33) hx hb hts ui_M hown hK hP 0 rfl rfl 22 (by decide) (hts _ uw_718) (fun _ h9 => h9) rfl de_M_broken0_4 ?_
      refine lv_icmp_ge (tgt := 24) hx hb de_M_broken0_7 (by decide) (fun c_3 => ?_) (fun c_3 => ?_)
      · skip
        have c_3 : (t1.2.2.2 4) ≤ i := (nI_leI (a := t1.2.2.2 4) (b := i) (by omega) (by omega)).mp c_3
        exact join_24 i t1 (by refine ⟨?_, ?_, ?_, ?_, ?_, ?_⟩ <;> omega) (by omega) (by rw [← hq, if_neg (by omega)]; rfl) _ _ ls hP hD hS (lv_sub hl [0, 1] rfl)
      · skip
        have c_3 : ¬ ((t1.2.2.2 4) ≤ i) := fun z => c_3 ((nI_leI (a := t1.2.2.2 4) (b := i) (by omega) (by omega)).mpr z)
        exfalso; omega
    | succ n ih =>
      intro i t1 hi hk hz1 hq H locs ls hP hD hS hl
      obtain ⟨_, _, _, _, _, _⟩ := hk
      refine lv_iload_n hx hb de_M_broken0_2 rfl (lv_at hl 1 rfl) ?_
      refine lv_aload_n hx hb de_M_broken0_3 rfl (lv_at hl 0 rfl) ?_
      refine va_get (D := (dC, dI)) (ci := 9) (v := .int (nI (t1.2.2.2 4))) (C := "StabilitySumsModel") (T := TB_M) (N := 33) hx hb hts ui_M hown hK hP 0 rfl rfl 22 (by decide) (hts _ uw_718) (fun _ h9 => h9) rfl de_M_broken0_4 ?_
      refine lv_icmp_ge (tgt := 24) hx hb de_M_broken0_7 (by decide) (fun c_4 => ?_) (fun c_4 => ?_)
      · skip
        have c_4 : (t1.2.2.2 4) ≤ i := (nI_leI (a := t1.2.2.2 4) (b := i) (by omega) (by omega)).mp c_4
        exfalso; omega
      · skip
        have c_4 : ¬ ((t1.2.2.2 4) ≤ i) := fun z => c_4 ((nI_leI (a := t1.2.2.2 4) (b := i) (by omega) (by omega)).mpr z)
        refine lv_aload_n hx hb de_M_broken0_10 rfl (lv_at hl 0 rfl) ?_
        refine lv_iload_n hx hb de_M_broken0_11 rfl (lv_at hl 1 rfl) ?_
        refine cl_Vi (As := [.int (nI i)]) (rest := []) ⟨hx, hb, hml, hown, hts⟩ (mt_M_isBroken l dC dI ad T t1 i (show IvM t1 from (by refine ⟨?_, ?_, ?_, ?_, ?_⟩ <;> omega)) (show i < 10 from by omega) hz1) (cwV 1 hts (uw_V uw_904 uw_906 uw_23 uw_36 uw_907) rfl rfl rfl (by decide +kernel) ⟨Nat.le_of_ble_eq_true rfl, Nat.le_of_ble_eq_true rfl⟩) (va_recv hK hP (ci := 9) (q0 := 0) rfl rfl) rfl hl.1 rfl (Nat.le_of_ble_eq_true rfl) de_M_broken0_12 ⟨Nat.zero_le _, Nat.zero_le _⟩ hK hN hP hD hS hA (fun r_5 _ H locs hw_5 hP hD hS => ?_)
        have hw_5 : bz r_5 (y_bp i t1) := hw_5
        obtain ⟨t_6, et_6⟩ : ∃ z, z = y_bt i t1 := ⟨_, rfl⟩
        have hP : va_P (dC, dI) CLS (wM ad T t_6) H := by rw [et_6]; exact hP
        have hD : va_D A (wM ad T t_6) := by rw [et_6]; exact hD
        obtain ⟨_, _, _, _, _, _⟩ : N6p t_6 t1 := by rw [et_6]; exact nsix (y_bt_N _ _)
        refine lv_if_ne (tgt := 24) hx hb de_M_broken0_15 (by decide) (fun c_7 => ?_) (fun c_7 => ?_)
        · skip
          have c_7 := bz_t hw_5 c_7
          exact join_24 i t_6 (by refine ⟨?_, ?_, ?_, ?_, ?_, ?_⟩ <;> omega) (by omega) (by rw [← hq, y_lb, if_pos c_7, if_pos (by omega), et_6]) _ _ ls hP hD hS (lv_sub hl [0, 1] rfl)
        · skip
          have c_7 := bz_f hw_5 c_7
          refine lv_iinc (v := (nI (i + 1))) (lv' := [(1, .int (nI (i + 1))), (0, .ref (ad 0))]) hx hb de_M_broken0_18 hl (k := 1) rfl (nI_1 i) (by decide) rfl (fun ls hl => ?_)
          refine lv_goto (tgt := 2) hx hb de_M_broken0_21 (by decide) ?_
          exact ih (i + 1) t_6 (by omega) (by refine ⟨?_, ?_, ?_, ?_, ?_, ?_⟩ <;> omega) (by rw [et_6]; exact hz1.bt i) (by rw [← hq, y_lb, if_neg c_7, et_6]) H locs ls hP hD hS (lv_sub hl [1, 0] rfl)
  exact loop_2 (t.2.2.2 4) 0 t (by omega) (nsix rfl) hz rfl _ _ ls hP hD hS (lv_sub hl [1, 0] rfl)
