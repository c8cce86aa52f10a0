set_option maxHeartbeats 4000000 in
set_option maxRecDepth 100000 in
theorem mt_M_reckon (l : Launch) (dC : Nat → ClassId) (dI : Nat → Nat → Nat) (ad : Nat → Nat) (T : Nat → ClassId) (t : St) (a0 : Int32) (hI : IvM t) (sz : Nat) : Met l yn_M_reckon (.code yn_M_reckon cd_M_reckon 4 none :: UW) ({ frames := 1, cells := 0, slots := 0, locals := 30 } : Room) (va_Pc [.ref (ad 0), .int a0] (Pw (dC, dI) CLS (TY T) (wM ad T t) sz)) (va_Qv (fun _ : Unit => True) (Bw (dC, dI) CLS (TY T) (fun _ : Unit => (wM ad T (y_rk a0 t))) (va_A (wM ad T t) sz)) (va_A (wM ad T t) sz)) 0 0 (va_A (wM ad T t) sz) := by
  refine Met.ofW (cc := cd_M_reckon) (maxL := 4) (ret := none) (by decide) rfl ?_
  intro p e s m args below meth c s₁ B hml hv
  obtain ⟨rfl, hsz, hP, hK, hD0, hN⟩ := hv
  have hx := B.exec
  have hb := B.bytes
  have hr := B.returns
  have hts : ∀ w ∈ UW, w.before _ s = true := fun w h => atoms_spec (ws := .code yn_M_reckon cd_M_reckon 4 none :: UW) B.pre w (List.mem_cons_of_mem _ h)
  have hown : s.vm.findClass "StabilitySumsModel" = some m.cls := findClass_of_methodNamed B.named
  have hlocks := B.notSynchronized
  subst hsz
  have hD := hD0.self (sz := s.heap.size)
  generalize hAe : va_A (wM ad T t) s.heap.size = A at hD ⊢
  have hA : ∀ q : Nat, s.heap.size ≤ q → A q := fun q h => by rw [← hAe]; exact Or.inr h
  have hS : va_S A s.heap s.heap [] := va_S.rf
  have hl := lv_entry ([.ref (ad 0), .int a0]) (n := 4) (Nat.le_of_ble_eq_true rfl)
  rw [lg_entry_eq]
  generalize (lg_sl ([.ref (ad 0), .int a0]) ++ List.replicate (4 - (lg_sl ([.ref (ad 0), .int a0])).length) Slot.unset).toArray = ls at hl ⊢
  have hl : lv_has ls 4 [(0, .ref (ad 0)), (1, .int a0)] := hl
  generalize hQ : MQ below _ _ s 0 0 A = Q
  obtain ⟨hI1, hI2, hI3, hI4, hI5⟩ := hI
  refine lv_aload_n hx hb de_M_reckon_0 rfl (lv_at hl 0 rfl) ?_
  refine lv_iconst (v := 0) hx hb de_M_reckon_1 (by decide) ?_
  refine cl_Vl (As := [.int 0]) (rest := []) ⟨hx, hb, hml, hown, hts⟩ (mt_M_sum l dC dI ad T t 0 (show IvM t from (by refine ⟨?_, ?_, ?_, ?_, ?_⟩ <;> omega))) (cwV 1 hts (uw_V uw_811 uw_813 uw_14 uw_36 uw_814) rfl rfl rfl (by decide +kernel) ⟨Nat.le_of_ble_eq_true rfl, Nat.le_of_ble_eq_true rfl⟩) (va_recv hK hP (ci := 9) (q0 := 0) rfl rfl) rfl hl.1 rfl (Nat.le_of_ble_eq_true rfl) de_M_reckon_2 ⟨Nat.zero_le _, Nat.zero_le _⟩ hK hN hP hD hS hA (fun r_1 _ H locs hw_1 hP hD hS => ?_)
  have hw_1 : r_1 = y_S 0 t := hw_1
  refine lv_lstore_n (lv' := [(2, .long r_1), (0, .ref (ad 0)), (1, .int a0)]) hx hb de_M_reckon_5 rfl hl (by decide) rfl (fun ls hl => ?_)
  refine lv_aload_n hx hb de_M_reckon_6 rfl (lv_at hl 1 rfl) ?_
  refine lv_lload_n hx hb de_M_reckon_7 rfl (lv_at hl 0 rfl) ?_
  refine va_put (D := (dC, dI)) (ci := 9) (v := .long r_1) (ty := .long) (C := "StabilitySumsModel") (T := TB_M) (N := 33) hx hb hts ui_M tt_M tk_M nm_M hown hK hP hD hS 0 rfl rfl 31 (by decide) (hts _ uw_727) (fun _ h9 => h9) rfl (by decide +kernel) rfl rfl (Nat.le_of_ble_eq_true rfl) de_M_reckon_8 (fun H locs hP hD hS => ?_)
  have hP : va_P (dC, dI) CLS (wM ad T (sF t 2 r_1)) H := hP
  have hD : va_D A (wM ad T (sF t 2 r_1)) := hD
  refine lv_aload_n hx hb de_M_reckon_11 rfl (lv_at hl 1 rfl) ?_
  refine lv_lconst (v := 1) hx hb de_M_reckon_12 (by decide) ?_
  refine va_put (D := (dC, dI)) (ci := 9) (v := .long 1) (ty := .long) (C := "StabilitySumsModel") (T := TB_M) (N := 33) hx hb hts ui_M tt_M tk_M nm_M hown hK hP hD hS 0 rfl rfl 32 (by decide) (hts _ uw_728) (fun _ h9 => h9) rfl (by decide +kernel) rfl rfl (Nat.le_of_ble_eq_true rfl) de_M_reckon_13 (fun H locs hP hD hS => ?_)
  have hP : va_P (dC, dI) CLS (wM ad T (sF (sF t 2 r_1) 3 1)) H := hP
  have hD : va_D A (wM ad T (sF (sF t 2 r_1) 3 1)) := hD
  refine lv_iload_n hx hb de_M_reckon_16 rfl (lv_at hl 2 rfl) ?_
  refine lv_iconst (v := 1) hx hb de_M_reckon_17 (by decide) ?_
  refine lv_icmp_lt (tgt := 43) hx hb de_M_reckon_18 (by decide) (fun c_2 => ?_) (fun c_2 => ?_)
  · skip
    refine lv_iload_n hx hb de_M_reckon_43 rfl (lv_at hl 2 rfl) ?_
    refine lv_iconst (v := 4) hx hb de_M_reckon_44 (by decide) ?_
    refine lv_icmp_ne (tgt := 70) hx hb de_M_reckon_45 (by decide) (fun c_3 => ?_) (fun c_3 => ?_)
    · skip
      refine lv_iload_n hx hb de_M_reckon_70 rfl (lv_at hl 2 rfl) ?_
      refine lv_iconst (v := 5) hx hb de_M_reckon_71 (by decide) ?_
      refine lv_icmp_ne (tgt := 120) hx hb de_M_reckon_72 (by decide) (fun c_4 => ?_) (fun c_4 => ?_)
      · skip
        refine lv_iload_n hx hb de_M_reckon_120 rfl (lv_at hl 2 rfl) ?_
        refine lv_bipush (v := 6) hx hb de_M_reckon_121 (by decide) ?_
        refine lv_icmp_ne (tgt := 135) hx hb de_M_reckon_123 (by decide) (fun c_5 => ?_) (fun c_5 => ?_)
        · skip
          refine lv_iload_n hx hb de_M_reckon_135 rfl (lv_at hl 2 rfl) ?_
          refine lv_bipush (v := 7) hx hb de_M_reckon_136 (by decide) ?_
          refine lv_icmp_ne (tgt := 175) hx hb de_M_reckon_138 (by decide) (fun c_6 => ?_) (fun c_6 => ?_)
          · skip
            refine lv_aload_n hx hb de_M_reckon_175 rfl (lv_at hl 1 rfl) ?_
            refine va_get (D := (dC, dI)) (ci := 9) (v := .long 1) (C := "StabilitySumsModel") (T := TB_M) (N := 33) hx hb hts ui_M hown hK hP 0 rfl rfl 32 (by decide) (hts _ uw_728) (fun _ h9 => h9) rfl de_M_reckon_176 ?_
            refine lv_lconst (v := 0) hx hb de_M_reckon_179 (by decide) ?_
            refine rw_ge (tgt := 202) hx hb de_M_reckon_180 de_M_reckon_181 (by decide) (fun c_7 => ?_) (fun c_7 => ?_)
            · skip
              have hfin : (sF (sF t 2 r_1) 3 1) = y_rk a0 t := by
                have hU9 : y_U0 a0 t = r_1 := by rw [y_U0, if_pos c_2, y_UA, if_neg c_3, if_neg c_4, if_neg c_5, if_neg c_6]; first | done | (subst_vars; rfl)
                have hD9 : y_D0 a0 t = 1 := by rw [y_D0, if_pos c_2, y_DA, if_neg c_3, if_neg c_4, if_neg c_5, if_neg c_6]; first | done | (subst_vars; rfl)
                have hU8 : y_U a0 t = r_1 := by rw [y_U, hD9, hU9, if_pos c_7]; first | done | (subst_vars; rfl)
                have hD8 : y_D a0 t = 1 := by rw [y_D, hD9, if_pos c_7]; first | done | (subst_vars; rfl)
                unfold y_rk; rw [hU8, hD8]; first | done | (simp only [sF_idem, sF_c32]; done) | (subst_vars; unfold y_tb; simp only [sF_idem, sF_c32]; done) | (subst_vars; unfold y_tb; simp only [sF_idem, sF_c32]; rfl)
              rw [hfin] at hP hD
              subst hQ
              exact W.vret hx hb hr (fun t9 ht hW => ⟨⟨(), rfl, trivial, by rw [ht]; exact hP, va_K.moved hW.alike hK, hD⟩, hS.F ht⟩) hS.2.2 de_M_reckon_202
            · skip
              refine lv_aload_n hx hb de_M_reckon_184 rfl (lv_at hl 1 rfl) ?_
              refine lv_aload_n hx hb de_M_reckon_185 rfl (lv_at hl 1 rfl) ?_
              refine va_get (D := (dC, dI)) (ci := 9) (v := .long r_1) (C := "StabilitySumsModel") (T := TB_M) (N := 33) hx hb hts ui_M hown hK hP 0 rfl rfl 31 (by decide) (hts _ uw_727) (fun _ h9 => h9) rfl de_M_reckon_186 ?_
              refine lv_lneg hx hb de_M_reckon_189 ?_
              refine lv_topl (fun v_8 ev_8 => ?_)
              have ev_8 : v_8 = -r_1 := ev_8
              refine va_put (D := (dC, dI)) (ci := 9) (v := .long v_8) (ty := .long) (C := "StabilitySumsModel") (T := TB_M) (N := 33) hx hb hts ui_M tt_M tk_M nm_M hown hK hP hD hS 0 rfl rfl 31 (by decide) (hts _ uw_727) (fun _ h9 => h9) rfl (by decide +kernel) rfl rfl (Nat.le_of_ble_eq_true rfl) de_M_reckon_190 (fun H locs hP hD hS => ?_)
              have hP : va_P (dC, dI) CLS (wM ad T (sF (sF (sF t 2 r_1) 3 1) 2 v_8)) H := hP
              have hD : va_D A (wM ad T (sF (sF (sF t 2 r_1) 3 1) 2 v_8)) := hD
              refine lv_aload_n hx hb de_M_reckon_193 rfl (lv_at hl 1 rfl) ?_
              refine lv_aload_n hx hb de_M_reckon_194 rfl (lv_at hl 1 rfl) ?_
              refine va_get (D := (dC, dI)) (ci := 9) (v := .long 1) (C := "StabilitySumsModel") (T := TB_M) (N := 33) hx hb hts ui_M hown hK hP 0 rfl rfl 32 (by decide) (hts _ uw_728) (fun _ h9 => h9) rfl de_M_reckon_195 ?_
              refine lv_lneg hx hb de_M_reckon_198 ?_
              refine lv_topl (fun v_9 ev_9 => ?_)
              have ev_9 : v_9 = -1 := ev_9
              refine va_put (D := (dC, dI)) (ci := 9) (v := .long v_9) (ty := .long) (C := "StabilitySumsModel") (T := TB_M) (N := 33) hx hb hts ui_M tt_M tk_M nm_M hown hK hP hD hS 0 rfl rfl 32 (by decide) (hts _ uw_728) (fun _ h9 => h9) rfl (by decide +kernel) rfl rfl (Nat.le_of_ble_eq_true rfl) de_M_reckon_199 (fun H locs hP hD hS => ?_)
              have hP : va_P (dC, dI) CLS (wM ad T (sF (sF (sF (sF t 2 r_1) 3 1) 2 v_8) 3 v_9)) H := hP
              have hD : va_D A (wM ad T (sF (sF (sF (sF t 2 r_1) 3 1) 2 v_8) 3 v_9)) := hD
              have hfin : (sF (sF (sF (sF t 2 r_1) 3 1) 2 v_8) 3 v_9) = y_rk a0 t := by
                have hU9 : y_U0 a0 t = r_1 := by rw [y_U0, if_pos c_2, y_UA, if_neg c_3, if_neg c_4, if_neg c_5, if_neg c_6]; first | done | (subst_vars; rfl)
                have hD9 : y_D0 a0 t = 1 := by rw [y_D0, if_pos c_2, y_DA, if_neg c_3, if_neg c_4, if_neg c_5, if_neg c_6]; first | done | (subst_vars; rfl)
                have hU8 : y_U a0 t = v_8 := by rw [y_U, hD9, hU9, if_neg c_7]; first | done | (subst_vars; rfl)
                have hD8 : y_D a0 t = v_9 := by rw [y_D, hD9, if_neg c_7]; first | done | (subst_vars; rfl)
                unfold y_rk; rw [hU8, hD8]; first | done | (simp only [sF_idem, sF_c32]; done) | (subst_vars; unfold y_tb; simp only [sF_idem, sF_c32]; done) | (subst_vars; unfold y_tb; simp only [sF_idem, sF_c32]; rfl)
              rw [hfin] at hP hD
              subst hQ
              exact W.vret hx hb hr (fun t9 ht hW => ⟨⟨(), rfl, trivial, by rw [ht]; exact hP, va_K.moved hW.alike hK, hD⟩, hS.F ht⟩) hS.2.2 de_M_reckon_202
          · skip
            refine lv_aload_n hx hb de_M_reckon_141 rfl (lv_at hl 1 rfl) ?_
            refine lv_ldc2 (v := 2) hx hb hown (hts _ uw_827) de_M_reckon_142 ?_
            refine lv_aload_n hx hb de_M_reckon_145 rfl (lv_at hl 1 rfl) ?_
            refine lv_iconst (v := 1) hx hb de_M_reckon_146 (by decide) ?_
            refine cl_Vl (As := [.int 1]) (rest := [.long 2, .ref (ad 0)]) ⟨hx, hb, hml, hown, hts⟩ (mt_M_sum l dC dI ad T (sF (sF t 2 r_1) 3 1) 1 (show IvM t from (by refine ⟨?_, ?_, ?_, ?_, ?_⟩ <;> omega))) (cwV 1 hts (uw_V uw_811 uw_813 uw_14 uw_36 uw_814) rfl rfl rfl (by decide +kernel) ⟨Nat.le_of_ble_eq_true rfl, Nat.le_of_ble_eq_true rfl⟩) (va_recv hK hP (ci := 9) (q0 := 0) rfl rfl) rfl hl.1 rfl (Nat.le_of_ble_eq_true rfl) de_M_reckon_147 ⟨Nat.zero_le _, Nat.zero_le _⟩ hK hN hP hD hS hA (fun r_10 _ H locs hw_10 hP hD hS => ?_)
            have hw_10 : r_10 = y_S 1 (sF (sF t 2 r_1) 3 1) := hw_10
            refine lv_lmul hx hb de_M_reckon_150 ?_
            refine lv_topl (fun v_11 ev_11 => ?_)
            have ev_11 : v_11 = 2 * r_10 := ev_11
            refine lv_lload_n hx hb de_M_reckon_151 rfl (lv_at hl 0 rfl) ?_
            refine lv_aload_n hx hb de_M_reckon_152 rfl (lv_at hl 1 rfl) ?_
            refine va_get (D := (dC, dI)) (ci := 9) (v := .long (t.2.2.1 0)) (C := "StabilitySumsModel") (T := TB_M) (N := 33) hx hb hts ui_M hown hK hP 0 rfl rfl 20 (by decide) (hts _ uw_716) (fun _ h9 => h9) rfl de_M_reckon_153 ?_
            refine lv_aload_n hx hb de_M_reckon_156 rfl (lv_at hl 1 rfl) ?_
            refine va_get (D := (dC, dI)) (ci := 9) (v := .long (t.2.2.1 1)) (C := "StabilitySumsModel") (T := TB_M) (N := 33) hx hb hts ui_M hown hK hP 0 rfl rfl 21 (by decide) (hts _ uw_717) (fun _ h9 => h9) rfl de_M_reckon_157 ?_
            refine lv_ladd hx hb de_M_reckon_160 ?_
            refine lv_topl (fun v_12 ev_12 => ?_)
            have ev_12 : v_12 = (t.2.2.1 0) + (t.2.2.1 1) := ev_12
            refine lv_lmul hx hb de_M_reckon_161 ?_
            refine lv_topl (fun v_13 ev_13 => ?_)
            have ev_13 : v_13 = r_1 * v_12 := ev_13
            refine lv_lsub hx hb de_M_reckon_162 ?_
            refine lv_topl (fun v_14 ev_14 => ?_)
            have ev_14 : v_14 = v_11 - v_13 := ev_14
            refine va_put (D := (dC, dI)) (ci := 9) (v := .long v_14) (ty := .long) (C := "StabilitySumsModel") (T := TB_M) (N := 33) hx hb hts ui_M tt_M tk_M nm_M hown hK hP hD hS 0 rfl rfl 31 (by decide) (hts _ uw_727) (fun _ h9 => h9) rfl (by decide +kernel) rfl rfl (Nat.le_of_ble_eq_true rfl) de_M_reckon_163 (fun H locs hP hD hS => ?_)
            have hP : va_P (dC, dI) CLS (wM ad T (sF (sF (sF t 2 r_1) 3 1) 2 v_14)) H := hP
            have hD : va_D A (wM ad T (sF (sF (sF t 2 r_1) 3 1) 2 v_14)) := hD
            refine lv_aload_n hx hb de_M_reckon_166 rfl (lv_at hl 1 rfl) ?_
            refine lv_ldc2 (v := 2) hx hb hown (hts _ uw_827) de_M_reckon_167 ?_
            refine lv_lload_n hx hb de_M_reckon_170 rfl (lv_at hl 0 rfl) ?_
            refine lv_lmul hx hb de_M_reckon_171 ?_
            refine lv_topl (fun v_15 ev_15 => ?_)
            have ev_15 : v_15 = 2 * r_1 := ev_15
            refine va_put (D := (dC, dI)) (ci := 9) (v := .long v_15) (ty := .long) (C := "StabilitySumsModel") (T := TB_M) (N := 33) hx hb hts ui_M tt_M tk_M nm_M hown hK hP hD hS 0 rfl rfl 32 (by decide) (hts _ uw_728) (fun _ h9 => h9) rfl (by decide +kernel) rfl rfl (Nat.le_of_ble_eq_true rfl) de_M_reckon_172 (fun H locs hP hD hS => ?_)
            have hP : va_P (dC, dI) CLS (wM ad T (sF (sF (sF (sF t 2 r_1) 3 1) 2 v_14) 3 v_15)) H := hP
            have hD : va_D A (wM ad T (sF (sF (sF (sF t 2 r_1) 3 1) 2 v_14) 3 v_15)) := hD
            refine lv_aload_n hx hb de_M_reckon_175 rfl (lv_at hl 1 rfl) ?_
            refine va_get (D := (dC, dI)) (ci := 9) (v := .long v_15) (C := "StabilitySumsModel") (T := TB_M) (N := 33) hx hb hts ui_M hown hK hP 0 rfl rfl 32 (by decide) (hts _ uw_728) (fun _ h9 => h9) rfl de_M_reckon_176 ?_
            refine lv_lconst (v := 0) hx hb de_M_reckon_179 (by decide) ?_
            refine rw_ge (tgt := 202) hx hb de_M_reckon_180 de_M_reckon_181 (by decide) (fun c_16 => ?_) (fun c_16 => ?_)
            · skip
              have hfin : (sF (sF (sF (sF t 2 r_1) 3 1) 2 v_14) 3 v_15) = y_rk a0 t := by
                have hU9 : y_U0 a0 t = v_14 := by rw [y_U0, if_pos c_2, y_UA, if_neg c_3, if_neg c_4, if_neg c_5, if_pos c_6]; first | done | (subst_vars; rfl)
                have hD9 : y_D0 a0 t = v_15 := by rw [y_D0, if_pos c_2, y_DA, if_neg c_3, if_neg c_4, if_neg c_5, if_pos c_6]; first | done | (subst_vars; rfl)
                have hU8 : y_U a0 t = v_14 := by rw [y_U, hD9, hU9, if_pos c_16]; first | done | (subst_vars; rfl)
                have hD8 : y_D a0 t = v_15 := by rw [y_D, hD9, if_pos c_16]; first | done | (subst_vars; rfl)
                unfold y_rk; rw [hU8, hD8]; first | done | (simp only [sF_idem, sF_c32]; done) | (subst_vars; unfold y_tb; simp only [sF_idem, sF_c32]; done) | (subst_vars; unfold y_tb; simp only [sF_idem, sF_c32]; rfl)
              rw [hfin] at hP hD
              subst hQ
              exact W.vret hx hb hr (fun t9 ht hW => ⟨⟨(), rfl, trivial, by rw [ht]; exact hP, va_K.moved hW.alike hK, hD⟩, hS.F ht⟩) hS.2.2 de_M_reckon_202
            · skip
              refine lv_aload_n hx hb de_M_reckon_184 rfl (lv_at hl 1 rfl) ?_
              refine lv_aload_n hx hb de_M_reckon_185 rfl (lv_at hl 1 rfl) ?_
              refine va_get (D := (dC, dI)) (ci := 9) (v := .long v_14) (C := "StabilitySumsModel") (T := TB_M) (N := 33) hx hb hts ui_M hown hK hP 0 rfl rfl 31 (by decide) (hts _ uw_727) (fun _ h9 => h9) rfl de_M_reckon_186 ?_
              refine lv_lneg hx hb de_M_reckon_189 ?_
              refine lv_topl (fun v_17 ev_17 => ?_)
              have ev_17 : v_17 = -v_14 := ev_17
              refine va_put (D := (dC, dI)) (ci := 9) (v := .long v_17) (ty := .long) (C := "StabilitySumsModel") (T := TB_M) (N := 33) hx hb hts ui_M tt_M tk_M nm_M hown hK hP hD hS 0 rfl rfl 31 (by decide) (hts _ uw_727) (fun _ h9 => h9) rfl (by decide +kernel) rfl rfl (Nat.le_of_ble_eq_true rfl) de_M_reckon_190 (fun H locs hP hD hS => ?_)
              have hP : va_P (dC, dI) CLS (wM ad T (sF (sF (sF (sF (sF t 2 r_1) 3 1) 2 v_14) 3 v_15) 2 v_17)) H := hP
              have hD : va_D A (wM ad T (sF (sF (sF (sF (sF t 2 r_1) 3 1) 2 v_14) 3 v_15) 2 v_17)) := hD
              refine lv_aload_n hx hb de_M_reckon_193 rfl (lv_at hl 1 rfl) ?_
              refine lv_aload_n hx hb de_M_reckon_194 rfl (lv_at hl 1 rfl) ?_
              refine va_get (D := (dC, dI)) (ci := 9) (v := .long v_15) (C := "StabilitySumsModel") (T := TB_M) (N := 33) hx hb hts ui_M hown hK hP 0 rfl rfl 32 (by decide) (hts _ uw_728) (fun _ h9 => h9) rfl de_M_reckon_195 ?_
              refine lv_lneg hx hb de_M_reckon_198 ?_
              refine lv_topl (fun v_18 ev_18 => ?_)
              have ev_18 : v_18 = -v_15 := ev_18
              refine va_put (D := (dC, dI)) (ci := 9) (v := .long v_18) (ty := .long) (C := "StabilitySumsModel") (T := TB_M) (N := 33) hx hb hts ui_M tt_M tk_M nm_M hown hK hP hD hS 0 rfl rfl 32 (by decide) (hts _ uw_728) (fun _ h9 => h9) rfl (by decide +kernel) rfl rfl (Nat.le_of_ble_eq_true rfl) de_M_reckon_199 (fun H locs hP hD hS => ?_)
              have hP : va_P (dC, dI) CLS (wM ad T (sF (sF (sF (sF (sF (sF t 2 r_1) 3 1) 2 v_14) 3 v_15) 2 v_17) 3 v_18)) H := hP
              have hD : va_D A (wM ad T (sF (sF (sF (sF (sF (sF t 2 r_1) 3 1) 2 v_14) 3 v_15) 2 v_17) 3 v_18)) := hD
              have hfin : (sF (sF (sF (sF (sF (sF t 2 r_1) 3 1) 2 v_14) 3 v_15) 2 v_17) 3 v_18) = y_rk a0 t := by
                have hU9 : y_U0 a0 t = v_14 := by rw [y_U0, if_pos c_2, y_UA, if_neg c_3, if_neg c_4, if_neg c_5, if_pos c_6]; first | done | (subst_vars; rfl)
                have hD9 : y_D0 a0 t = v_15 := by rw [y_D0, if_pos c_2, y_DA, if_neg c_3, if_neg c_4, if_neg c_5, if_pos c_6]; first | done | (subst_vars; rfl)
                have hU8 : y_U a0 t = v_17 := by rw [y_U, hD9, hU9, if_neg c_16]; first | done | (subst_vars; rfl)
                have hD8 : y_D a0 t = v_18 := by rw [y_D, hD9, if_neg c_16]; first | done | (subst_vars; rfl)
                unfold y_rk; rw [hU8, hD8]; first | done | (simp only [sF_idem, sF_c32]; done) | (subst_vars; unfold y_tb; simp only [sF_idem, sF_c32]; done) | (subst_vars; unfold y_tb; simp only [sF_idem, sF_c32]; rfl)
              rw [hfin] at hP hD
              subst hQ
              exact W.vret hx hb hr (fun t9 ht hW => ⟨⟨(), rfl, trivial, by rw [ht]; exact hP, va_K.moved hW.alike hK, hD⟩, hS.F ht⟩) hS.2.2 de_M_reckon_202
        · skip
          refine lv_aload_n hx hb de_M_reckon_126 rfl (lv_at hl 1 rfl) ?_
          refine lv_lload_n hx hb de_M_reckon_127 rfl (lv_at hl 0 rfl) ?_
          refine lv_iconst (v := 0) hx hb de_M_reckon_128 (by decide) ?_
          refine cl_Vv (As := [.long r_1, .int 0]) (rest := []) ⟨hx, hb, hml, hown, hts⟩ (mt_M_table0 l dC dI ad T (sF (sF t 2 r_1) 3 1) r_1 (show IvM t from (by refine ⟨?_, ?_, ?_, ?_, ?_⟩ <;> omega))) (cwV 2 hts (uw_V uw_823 uw_825 uw_17 uw_36 uw_826) rfl rfl rfl (by decide +kernel) ⟨Nat.le_of_ble_eq_true rfl, Nat.le_of_ble_eq_true rfl⟩) (va_recv hK hP (ci := 9) (q0 := 0) rfl rfl) rfl hl.1 rfl (Nat.le_of_ble_eq_true rfl) de_M_reckon_129 ⟨Nat.zero_le _, Nat.zero_le _⟩ hK hN hP hD hS hA (fun _ H locs hw_19 hP hD hS => ?_)
          obtain ⟨t_20, et_20⟩ : ∃ z, z = y_tb 15 r_1 (sF (sF t 2 r_1) 3 1) := ⟨_, rfl⟩
          have hP : va_P (dC, dI) CLS (wM ad T t_20) H := by rw [et_20]; exact hP
          have hD : va_D A (wM ad T t_20) := by rw [et_20]; exact hD
          obtain ⟨_, _, _, _, _, _⟩ : N6p t_20 t := by rw [et_20]; exact nsix rfl
          refine lv_goto (tgt := 175) hx hb de_M_reckon_132 (by decide) ?_
          refine lv_aload_n hx hb de_M_reckon_175 rfl (lv_at hl 1 rfl) ?_
          refine va_get (D := (dC, dI)) (ci := 9) (v := .long (t_20.2.2.1 3)) (C := "StabilitySumsModel") (T := TB_M) (N := 33) hx hb hts ui_M hown hK hP 0 rfl rfl 32 (by decide) (hts _ uw_728) (fun _ h9 => h9) rfl de_M_reckon_176 ?_
          refine lv_lconst (v := 0) hx hb de_M_reckon_179 (by decide) ?_
          refine rw_ge (tgt := 202) hx hb de_M_reckon_180 de_M_reckon_181 (by decide) (fun c_21 => ?_) (fun c_21 => ?_)
          · skip
            have hfin : t_20 = y_rk a0 t := by
              have hU9 : y_U0 a0 t = (t_20.2.2.1 2) := by rw [y_U0, if_pos c_2, y_UA, if_neg c_3, if_neg c_4, if_pos c_5]; first | done | (subst_vars; rfl)
              have hD9 : y_D0 a0 t = (t_20.2.2.1 3) := by rw [y_D0, if_pos c_2, y_DA, if_neg c_3, if_neg c_4, if_pos c_5]; first | done | (subst_vars; rfl)
              have hU8 : y_U a0 t = (t_20.2.2.1 2) := by rw [y_U, hD9, hU9, if_pos c_21]; first | done | (subst_vars; rfl)
              have hD8 : y_D a0 t = (t_20.2.2.1 3) := by rw [y_D, hD9, if_pos c_21]; first | done | (subst_vars; rfl)
              unfold y_rk; rw [hU8, hD8]; first | done | (simp only [sF_idem, sF_c32]; done) | (subst_vars; unfold y_tb; simp only [sF_idem, sF_c32]; done) | (subst_vars; unfold y_tb; simp only [sF_idem, sF_c32]; rfl)
            rw [hfin] at hP hD
            subst hQ
            exact W.vret hx hb hr (fun t9 ht hW => ⟨⟨(), rfl, trivial, by rw [ht]; exact hP, va_K.moved hW.alike hK, hD⟩, hS.F ht⟩) hS.2.2 de_M_reckon_202
          · skip
            refine lv_aload_n hx hb de_M_reckon_184 rfl (lv_at hl 1 rfl) ?_
            refine lv_aload_n hx hb de_M_reckon_185 rfl (lv_at hl 1 rfl) ?_
            refine va_get (D := (dC, dI)) (ci := 9) (v := .long (t_20.2.2.1 2)) (C := "StabilitySumsModel") (T := TB_M) (N := 33) hx hb hts ui_M hown hK hP 0 rfl rfl 31 (by decide) (hts _ uw_727) (fun _ h9 => h9) rfl de_M_reckon_186 ?_
            refine lv_lneg hx hb de_M_reckon_189 ?_
            refine lv_topl (fun v_22 ev_22 => ?_)
            have ev_22 : v_22 = -(t_20.2.2.1 2) := ev_22
            refine va_put (D := (dC, dI)) (ci := 9) (v := .long v_22) (ty := .long) (C := "StabilitySumsModel") (T := TB_M) (N := 33) hx hb hts ui_M tt_M tk_M nm_M hown hK hP hD hS 0 rfl rfl 31 (by decide) (hts _ uw_727) (fun _ h9 => h9) rfl (by decide +kernel) rfl rfl (Nat.le_of_ble_eq_true rfl) de_M_reckon_190 (fun H locs hP hD hS => ?_)
            have hP : va_P (dC, dI) CLS (wM ad T (sF t_20 2 v_22)) H := hP
            have hD : va_D A (wM ad T (sF t_20 2 v_22)) := hD
            refine lv_aload_n hx hb de_M_reckon_193 rfl (lv_at hl 1 rfl) ?_
            refine lv_aload_n hx hb de_M_reckon_194 rfl (lv_at hl 1 rfl) ?_
            refine va_get (D := (dC, dI)) (ci := 9) (v := .long (t_20.2.2.1 3)) (C := "StabilitySumsModel") (T := TB_M) (N := 33) hx hb hts ui_M hown hK hP 0 rfl rfl 32 (by decide) (hts _ uw_728) (fun _ h9 => h9) rfl de_M_reckon_195 ?_
            refine lv_lneg hx hb de_M_reckon_198 ?_
            refine lv_topl (fun v_23 ev_23 => ?_)
            have ev_23 : v_23 = -(t_20.2.2.1 3) := ev_23
            refine va_put (D := (dC, dI)) (ci := 9) (v := .long v_23) (ty := .long) (C := "StabilitySumsModel") (T := TB_M) (N := 33) hx hb hts ui_M tt_M tk_M nm_M hown hK hP hD hS 0 rfl rfl 32 (by decide) (hts _ uw_728) (fun _ h9 => h9) rfl (by decide +kernel) rfl rfl (Nat.le_of_ble_eq_true rfl) de_M_reckon_199 (fun H locs hP hD hS => ?_)
            have hP : va_P (dC, dI) CLS (wM ad T (sF (sF t_20 2 v_22) 3 v_23)) H := hP
            have hD : va_D A (wM ad T (sF (sF t_20 2 v_22) 3 v_23)) := hD
            have hfin : (sF (sF t_20 2 v_22) 3 v_23) = y_rk a0 t := by
              have hU9 : y_U0 a0 t = (t_20.2.2.1 2) := by rw [y_U0, if_pos c_2, y_UA, if_neg c_3, if_neg c_4, if_pos c_5]; first | done | (subst_vars; rfl)
              have hD9 : y_D0 a0 t = (t_20.2.2.1 3) := by rw [y_D0, if_pos c_2, y_DA, if_neg c_3, if_neg c_4, if_pos c_5]; first | done | (subst_vars; rfl)
              have hU8 : y_U a0 t = v_22 := by rw [y_U, hD9, hU9, if_neg c_21]; first | done | (subst_vars; rfl)
              have hD8 : y_D a0 t = v_23 := by rw [y_D, hD9, if_neg c_21]; first | done | (subst_vars; rfl)
              unfold y_rk; rw [hU8, hD8]; first | done | (simp only [sF_idem, sF_c32]; done) | (subst_vars; unfold y_tb; simp only [sF_idem, sF_c32]; done) | (subst_vars; unfold y_tb; simp only [sF_idem, sF_c32]; rfl)
            rw [hfin] at hP hD
            subst hQ
            exact W.vret hx hb hr (fun t9 ht hW => ⟨⟨(), rfl, trivial, by rw [ht]; exact hP, va_K.moved hW.alike hK, hD⟩, hS.F ht⟩) hS.2.2 de_M_reckon_202
      · skip
        refine lv_aload_n hx hb de_M_reckon_75 rfl (lv_at hl 1 rfl) ?_
        refine lv_lload_n hx hb de_M_reckon_76 rfl (lv_at hl 0 rfl) ?_
        refine lv_iconst (v := 1) hx hb de_M_reckon_77 (by decide) ?_
        refine cl_Vv (As := [.long r_1, .int 1]) (rest := []) ⟨hx, hb, hml, hown, hts⟩ (mt_M_table1 l dC dI ad T (sF (sF t 2 r_1) 3 1) r_1 (show IvM t from (by refine ⟨?_, ?_, ?_, ?_, ?_⟩ <;> omega))) (cwV 2 hts (uw_V uw_823 uw_825 uw_17 uw_36 uw_826) rfl rfl rfl (by decide +kernel) ⟨Nat.le_of_ble_eq_true rfl, Nat.le_of_ble_eq_true rfl⟩) (va_recv hK hP (ci := 9) (q0 := 0) rfl rfl) rfl hl.1 rfl (Nat.le_of_ble_eq_true rfl) de_M_reckon_78 ⟨Nat.zero_le _, Nat.zero_le _⟩ hK hN hP hD hS hA (fun _ H locs hw_24 hP hD hS => ?_)
        obtain ⟨t_25, et_25⟩ : ∃ z, z = y_tb 14 r_1 (sF (sF t 2 r_1) 3 1) := ⟨_, rfl⟩
        have hP : va_P (dC, dI) CLS (wM ad T t_25) H := by rw [et_25]; exact hP
        have hD : va_D A (wM ad T t_25) := by rw [et_25]; exact hD
        obtain ⟨_, _, _, _, _, _⟩ : N6p t_25 t := by rw [et_25]; exact nsix rfl
        refine lv_aload_n hx hb de_M_reckon_81 rfl (lv_at hl 1 rfl) ?_
        refine lv_aload_n hx hb de_M_reckon_82 rfl (lv_at hl 1 rfl) ?_
        refine va_get (D := (dC, dI)) (ci := 9) (v := .long (t_25.2.2.1 2)) (C := "StabilitySumsModel") (T := TB_M) (N := 33) hx hb hts ui_M hown hK hP 0 rfl rfl 31 (by decide) (hts _ uw_727) (fun _ h9 => h9) rfl de_M_reckon_83 ?_
        refine lv_lload_n hx hb de_M_reckon_86 rfl (lv_at hl 0 rfl) ?_
        refine lv_lmul hx hb de_M_reckon_87 ?_
        refine lv_topl (fun v_26 ev_26 => ?_)
        have ev_26 : v_26 = (t_25.2.2.1 2) * r_1 := ev_26
        refine lv_aload_n hx hb de_M_reckon_88 rfl (lv_at hl 1 rfl) ?_
        refine lv_iconst (v := 3) hx hb de_M_reckon_89 (by decide) ?_
        refine cl_Vl (As := [.int 3]) (rest := [.long v_26, .ref (ad 0)]) ⟨hx, hb, hml, hown, hts⟩ (mt_M_sum l dC dI ad T t_25 3 (show IvM t_25 from (by refine ⟨?_, ?_, ?_, ?_, ?_⟩ <;> omega))) (cwV 1 hts (uw_V uw_811 uw_813 uw_14 uw_36 uw_814) rfl rfl rfl (by decide +kernel) ⟨Nat.le_of_ble_eq_true rfl, Nat.le_of_ble_eq_true rfl⟩) (va_recv hK hP (ci := 9) (q0 := 0) rfl rfl) rfl hl.1 rfl (Nat.le_of_ble_eq_true rfl) de_M_reckon_90 ⟨Nat.zero_le _, Nat.zero_le _⟩ hK hN hP hD hS hA (fun r_27 _ H locs hw_27 hP hD hS => ?_)
        have hw_27 : r_27 = y_S 3 t_25 := hw_27
        refine lv_aload_n hx hb de_M_reckon_93 rfl (lv_at hl 1 rfl) ?_
        refine cl_Vl (As := []) (rest := [.long r_27, .long v_26, .ref (ad 0)]) ⟨hx, hb, hml, hown, hts⟩ (mt_M_free l dC dI ad T t_25 (show IvM t_25 from (by refine ⟨?_, ?_, ?_, ?_, ?_⟩ <;> omega))) (cwV 0 hts (uw_V uw_819 uw_821 uw_16 uw_36 uw_822) rfl rfl rfl (by decide +kernel) ⟨Nat.le_of_ble_eq_true rfl, Nat.le_of_ble_eq_true rfl⟩) (va_recv hK hP (ci := 9) (q0 := 0) rfl rfl) rfl hl.1 rfl (Nat.le_of_ble_eq_true rfl) de_M_reckon_94 ⟨Nat.zero_le _, Nat.zero_le _⟩ hK hN hP hD hS hA (fun r_28 _ H locs hw_28 hP hD hS => ?_)
        have hw_28 : r_28 = y_R t_25 := hw_28
        refine lv_ladd hx hb de_M_reckon_97 ?_
        refine lv_topl (fun v_29 ev_29 => ?_)
        have ev_29 : v_29 = r_27 + r_28 := ev_29
        refine lv_aload_n hx hb de_M_reckon_98 rfl (lv_at hl 1 rfl) ?_
        refine va_get (D := (dC, dI)) (ci := 9) (v := .long (t_25.2.2.1 3)) (C := "StabilitySumsModel") (T := TB_M) (N := 33) hx hb hts ui_M hown hK hP 0 rfl rfl 32 (by decide) (hts _ uw_728) (fun _ h9 => h9) rfl de_M_reckon_99 ?_
        refine lv_lmul hx hb de_M_reckon_102 ?_
        refine lv_topl (fun v_30 ev_30 => ?_)
        have ev_30 : v_30 = v_29 * (t_25.2.2.1 3) := ev_30
        refine lv_lsub hx hb de_M_reckon_103 ?_
        refine lv_topl (fun v_31 ev_31 => ?_)
        have ev_31 : v_31 = v_26 - v_30 := ev_31
        refine va_put (D := (dC, dI)) (ci := 9) (v := .long v_31) (ty := .long) (C := "StabilitySumsModel") (T := TB_M) (N := 33) hx hb hts ui_M tt_M tk_M nm_M hown hK hP hD hS 0 rfl rfl 31 (by decide) (hts _ uw_727) (fun _ h9 => h9) rfl (by decide +kernel) rfl rfl (Nat.le_of_ble_eq_true rfl) de_M_reckon_104 (fun H locs hP hD hS => ?_)
        have hP : va_P (dC, dI) CLS (wM ad T (sF t_25 2 v_31)) H := hP
        have hD : va_D A (wM ad T (sF t_25 2 v_31)) := hD
        refine lv_aload_n hx hb de_M_reckon_107 rfl (lv_at hl 1 rfl) ?_
        refine lv_aload_n hx hb de_M_reckon_108 rfl (lv_at hl 1 rfl) ?_
        refine va_get (D := (dC, dI)) (ci := 9) (v := .long (t_25.2.2.1 3)) (C := "StabilitySumsModel") (T := TB_M) (N := 33) hx hb hts ui_M hown hK hP 0 rfl rfl 32 (by decide) (hts _ uw_728) (fun _ h9 => h9) rfl de_M_reckon_109 ?_
        refine lv_lload_n hx hb de_M_reckon_112 rfl (lv_at hl 0 rfl) ?_
        refine lv_lmul hx hb de_M_reckon_113 ?_
        refine lv_topl (fun v_32 ev_32 => ?_)
        have ev_32 : v_32 = (t_25.2.2.1 3) * r_1 := ev_32
        refine va_put (D := (dC, dI)) (ci := 9) (v := .long v_32) (ty := .long) (C := "StabilitySumsModel") (T := TB_M) (N := 33) hx hb hts ui_M tt_M tk_M nm_M hown hK hP hD hS 0 rfl rfl 32 (by decide) (hts _ uw_728) (fun _ h9 => h9) rfl (by decide +kernel) rfl rfl (Nat.le_of_ble_eq_true rfl) de_M_reckon_114 (fun H locs hP hD hS => ?_)
        have hP : va_P (dC, dI) CLS (wM ad T (sF (sF t_25 2 v_31) 3 v_32)) H := hP
        have hD : va_D A (wM ad T (sF (sF t_25 2 v_31) 3 v_32)) := hD
        refine lv_goto (tgt := 175) hx hb de_M_reckon_117 (by decide) ?_
        refine lv_aload_n hx hb de_M_reckon_175 rfl (lv_at hl 1 rfl) ?_
        refine va_get (D := (dC, dI)) (ci := 9) (v := .long v_32) (C := "StabilitySumsModel") (T := TB_M) (N := 33) hx hb hts ui_M hown hK hP 0 rfl rfl 32 (by decide) (hts _ uw_728) (fun _ h9 => h9) rfl de_M_reckon_176 ?_
        refine lv_lconst (v := 0) hx hb de_M_reckon_179 (by decide) ?_
        refine rw_ge (tgt := 202) hx hb de_M_reckon_180 de_M_reckon_181 (by decide) (fun c_33 => ?_) (fun c_33 => ?_)
        · skip
          have hfin : (sF (sF t_25 2 v_31) 3 v_32) = y_rk a0 t := by
            have hU9 : y_U0 a0 t = v_31 := by rw [y_U0, if_pos c_2, y_UA, if_neg c_3, if_pos c_4]; first | done | (subst_vars; rfl)
            have hD9 : y_D0 a0 t = v_32 := by rw [y_D0, if_pos c_2, y_DA, if_neg c_3, if_pos c_4]; first | done | (subst_vars; rfl)
            have hU8 : y_U a0 t = v_31 := by rw [y_U, hD9, hU9, if_pos c_33]; first | done | (subst_vars; rfl)
            have hD8 : y_D a0 t = v_32 := by rw [y_D, hD9, if_pos c_33]; first | done | (subst_vars; rfl)
            unfold y_rk; rw [hU8, hD8]; first | done | (simp only [sF_idem, sF_c32]; done) | (subst_vars; unfold y_tb; simp only [sF_idem, sF_c32]; done) | (subst_vars; unfold y_tb; simp only [sF_idem, sF_c32]; rfl)
          rw [hfin] at hP hD
          subst hQ
          exact W.vret hx hb hr (fun t9 ht hW => ⟨⟨(), rfl, trivial, by rw [ht]; exact hP, va_K.moved hW.alike hK, hD⟩, hS.F ht⟩) hS.2.2 de_M_reckon_202
        · skip
          refine lv_aload_n hx hb de_M_reckon_184 rfl (lv_at hl 1 rfl) ?_
          refine lv_aload_n hx hb de_M_reckon_185 rfl (lv_at hl 1 rfl) ?_
          refine va_get (D := (dC, dI)) (ci := 9) (v := .long v_31) (C := "StabilitySumsModel") (T := TB_M) (N := 33) hx hb hts ui_M hown hK hP 0 rfl rfl 31 (by decide) (hts _ uw_727) (fun _ h9 => h9) rfl de_M_reckon_186 ?_
          refine lv_lneg hx hb de_M_reckon_189 ?_
          refine lv_topl (fun v_34 ev_34 => ?_)
          have ev_34 : v_34 = -v_31 := ev_34
          refine va_put (D := (dC, dI)) (ci := 9) (v := .long v_34) (ty := .long) (C := "StabilitySumsModel") (T := TB_M) (N := 33) hx hb hts ui_M tt_M tk_M nm_M hown hK hP hD hS 0 rfl rfl 31 (by decide) (hts _ uw_727) (fun _ h9 => h9) rfl (by decide +kernel) rfl rfl (Nat.le_of_ble_eq_true rfl) de_M_reckon_190 (fun H locs hP hD hS => ?_)
          have hP : va_P (dC, dI) CLS (wM ad T (sF (sF (sF t_25 2 v_31) 3 v_32) 2 v_34)) H := hP
          have hD : va_D A (wM ad T (sF (sF (sF t_25 2 v_31) 3 v_32) 2 v_34)) := hD
          refine lv_aload_n hx hb de_M_reckon_193 rfl (lv_at hl 1 rfl) ?_
          refine lv_aload_n hx hb de_M_reckon_194 rfl (lv_at hl 1 rfl) ?_
          refine va_get (D := (dC, dI)) (ci := 9) (v := .long v_32) (C := "StabilitySumsModel") (T := TB_M) (N := 33) hx hb hts ui_M hown hK hP 0 rfl rfl 32 (by decide) (hts _ uw_728) (fun _ h9 => h9) rfl de_M_reckon_195 ?_
          refine lv_lneg hx hb de_M_reckon_198 ?_
          refine lv_topl (fun v_35 ev_35 => ?_)
          have ev_35 : v_35 = -v_32 := ev_35
          refine va_put (D := (dC, dI)) (ci := 9) (v := .long v_35) (ty := .long) (C := "StabilitySumsModel") (T := TB_M) (N := 33) hx hb hts ui_M tt_M tk_M nm_M hown hK hP hD hS 0 rfl rfl 32 (by decide) (hts _ uw_728) (fun _ h9 => h9) rfl (by decide +kernel) rfl rfl (Nat.le_of_ble_eq_true rfl) de_M_reckon_199 (fun H locs hP hD hS => ?_)
          have hP : va_P (dC, dI) CLS (wM ad T (sF (sF (sF (sF t_25 2 v_31) 3 v_32) 2 v_34) 3 v_35)) H := hP
          have hD : va_D A (wM ad T (sF (sF (sF (sF t_25 2 v_31) 3 v_32) 2 v_34) 3 v_35)) := hD
          have hfin : (sF (sF (sF (sF t_25 2 v_31) 3 v_32) 2 v_34) 3 v_35) = y_rk a0 t := by
            have hU9 : y_U0 a0 t = v_31 := by rw [y_U0, if_pos c_2, y_UA, if_neg c_3, if_pos c_4]; first | done | (subst_vars; rfl)
            have hD9 : y_D0 a0 t = v_32 := by rw [y_D0, if_pos c_2, y_DA, if_neg c_3, if_pos c_4]; first | done | (subst_vars; rfl)
            have hU8 : y_U a0 t = v_34 := by rw [y_U, hD9, hU9, if_neg c_33]; first | done | (subst_vars; rfl)
            have hD8 : y_D a0 t = v_35 := by rw [y_D, hD9, if_neg c_33]; first | done | (subst_vars; rfl)
            unfold y_rk; rw [hU8, hD8]; first | done | (simp only [sF_idem, sF_c32]; done) | (subst_vars; unfold y_tb; simp only [sF_idem, sF_c32]; done) | (subst_vars; unfold y_tb; simp only [sF_idem, sF_c32]; rfl)
          rw [hfin] at hP hD
          subst hQ
          exact W.vret hx hb hr (fun t9 ht hW => ⟨⟨(), rfl, trivial, by rw [ht]; exact hP, va_K.moved hW.alike hK, hD⟩, hS.F ht⟩) hS.2.2 de_M_reckon_202
    · skip
      refine lv_aload_n hx hb de_M_reckon_48 rfl (lv_at hl 1 rfl) ?_
      refine lv_aload_n hx hb de_M_reckon_49 rfl (lv_at hl 1 rfl) ?_
      refine lv_iconst (v := 3) hx hb de_M_reckon_50 (by decide) ?_
      refine cl_Vl (As := [.int 3]) (rest := [.ref (ad 0)]) ⟨hx, hb, hml, hown, hts⟩ (mt_M_sum l dC dI ad T (sF (sF t 2 r_1) 3 1) 3 (show IvM t from (by refine ⟨?_, ?_, ?_, ?_, ?_⟩ <;> omega))) (cwV 1 hts (uw_V uw_811 uw_813 uw_14 uw_36 uw_814) rfl rfl rfl (by decide +kernel) ⟨Nat.le_of_ble_eq_true rfl, Nat.le_of_ble_eq_true rfl⟩) (va_recv hK hP (ci := 9) (q0 := 0) rfl rfl) rfl hl.1 rfl (Nat.le_of_ble_eq_true rfl) de_M_reckon_51 ⟨Nat.zero_le _, Nat.zero_le _⟩ hK hN hP hD hS hA (fun r_36 _ H locs hw_36 hP hD hS => ?_)
      have hw_36 : r_36 = y_S 3 (sF (sF t 2 r_1) 3 1) := hw_36
      refine lv_aload_n hx hb de_M_reckon_54 rfl (lv_at hl 1 rfl) ?_
      refine cl_Vl (As := []) (rest := [.long r_36, .ref (ad 0)]) ⟨hx, hb, hml, hown, hts⟩ (mt_M_free l dC dI ad T (sF (sF t 2 r_1) 3 1) (show IvM t from (by refine ⟨?_, ?_, ?_, ?_, ?_⟩ <;> omega))) (cwV 0 hts (uw_V uw_819 uw_821 uw_16 uw_36 uw_822) rfl rfl rfl (by decide +kernel) ⟨Nat.le_of_ble_eq_true rfl, Nat.le_of_ble_eq_true rfl⟩) (va_recv hK hP (ci := 9) (q0 := 0) rfl rfl) rfl hl.1 rfl (Nat.le_of_ble_eq_true rfl) de_M_reckon_55 ⟨Nat.zero_le _, Nat.zero_le _⟩ hK hN hP hD hS hA (fun r_37 _ H locs hw_37 hP hD hS => ?_)
      have hw_37 : r_37 = y_R (sF (sF t 2 r_1) 3 1) := hw_37
      refine lv_ladd hx hb de_M_reckon_58 ?_
      refine lv_topl (fun v_38 ev_38 => ?_)
      have ev_38 : v_38 = r_36 + r_37 := ev_38
      refine va_put (D := (dC, dI)) (ci := 9) (v := .long v_38) (ty := .long) (C := "StabilitySumsModel") (T := TB_M) (N := 33) hx hb hts ui_M tt_M tk_M nm_M hown hK hP hD hS 0 rfl rfl 31 (by decide) (hts _ uw_727) (fun _ h9 => h9) rfl (by decide +kernel) rfl rfl (Nat.le_of_ble_eq_true rfl) de_M_reckon_59 (fun H locs hP hD hS => ?_)
      have hP : va_P (dC, dI) CLS (wM ad T (sF (sF (sF t 2 r_1) 3 1) 2 v_38)) H := hP
      have hD : va_D A (wM ad T (sF (sF (sF t 2 r_1) 3 1) 2 v_38)) := hD
      refine lv_aload_n hx hb de_M_reckon_62 rfl (lv_at hl 1 rfl) ?_
      refine lv_lload_n hx hb de_M_reckon_63 rfl (lv_at hl 0 rfl) ?_
      refine va_put (D := (dC, dI)) (ci := 9) (v := .long r_1) (ty := .long) (C := "StabilitySumsModel") (T := TB_M) (N := 33) hx hb hts ui_M tt_M tk_M nm_M hown hK hP hD hS 0 rfl rfl 32 (by decide) (hts _ uw_728) (fun _ h9 => h9) rfl (by decide +kernel) rfl rfl (Nat.le_of_ble_eq_true rfl) de_M_reckon_64 (fun H locs hP hD hS => ?_)
      have hP : va_P (dC, dI) CLS (wM ad T (sF (sF (sF (sF t 2 r_1) 3 1) 2 v_38) 3 r_1)) H := hP
      have hD : va_D A (wM ad T (sF (sF (sF (sF t 2 r_1) 3 1) 2 v_38) 3 r_1)) := hD
      refine lv_goto (tgt := 175) hx hb de_M_reckon_67 (by decide) ?_
      refine lv_aload_n hx hb de_M_reckon_175 rfl (lv_at hl 1 rfl) ?_
      refine va_get (D := (dC, dI)) (ci := 9) (v := .long r_1) (C := "StabilitySumsModel") (T := TB_M) (N := 33) hx hb hts ui_M hown hK hP 0 rfl rfl 32 (by decide) (hts _ uw_728) (fun _ h9 => h9) rfl de_M_reckon_176 ?_
      refine lv_lconst (v := 0) hx hb de_M_reckon_179 (by decide) ?_
      refine rw_ge (tgt := 202) hx hb de_M_reckon_180 de_M_reckon_181 (by decide) (fun c_39 => ?_) (fun c_39 => ?_)
      · skip
        have hfin : (sF (sF (sF (sF t 2 r_1) 3 1) 2 v_38) 3 r_1) = y_rk a0 t := by
          have hU9 : y_U0 a0 t = v_38 := by rw [y_U0, if_pos c_2, y_UA, if_pos c_3]; first | done | (subst_vars; rfl)
          have hD9 : y_D0 a0 t = r_1 := by rw [y_D0, if_pos c_2, y_DA, if_pos c_3]; first | done | (subst_vars; rfl)
          have hU8 : y_U a0 t = v_38 := by rw [y_U, hD9, hU9, if_pos c_39]; first | done | (subst_vars; rfl)
          have hD8 : y_D a0 t = r_1 := by rw [y_D, hD9, if_pos c_39]; first | done | (subst_vars; rfl)
          unfold y_rk; rw [hU8, hD8]; first | done | (simp only [sF_idem, sF_c32]; done) | (subst_vars; unfold y_tb; simp only [sF_idem, sF_c32]; done) | (subst_vars; unfold y_tb; simp only [sF_idem, sF_c32]; rfl)
        rw [hfin] at hP hD
        subst hQ
        exact W.vret hx hb hr (fun t9 ht hW => ⟨⟨(), rfl, trivial, by rw [ht]; exact hP, va_K.moved hW.alike hK, hD⟩, hS.F ht⟩) hS.2.2 de_M_reckon_202
      · skip
        refine lv_aload_n hx hb de_M_reckon_184 rfl (lv_at hl 1 rfl) ?_
        refine lv_aload_n hx hb de_M_reckon_185 rfl (lv_at hl 1 rfl) ?_
        refine va_get (D := (dC, dI)) (ci := 9) (v := .long v_38) (C := "StabilitySumsModel") (T := TB_M) (N := 33) hx hb hts ui_M hown hK hP 0 rfl rfl 31 (by decide) (hts _ uw_727) (fun _ h9 => h9) rfl de_M_reckon_186 ?_
        refine lv_lneg hx hb de_M_reckon_189 ?_
        refine lv_topl (fun v_40 ev_40 => ?_)
        have ev_40 : v_40 = -v_38 := ev_40
        refine va_put (D := (dC, dI)) (ci := 9) (v := .long v_40) (ty := .long) (C := "StabilitySumsModel") (T := TB_M) (N := 33) hx hb hts ui_M tt_M tk_M nm_M hown hK hP hD hS 0 rfl rfl 31 (by decide) (hts _ uw_727) (fun _ h9 => h9) rfl (by decide +kernel) rfl rfl (Nat.le_of_ble_eq_true rfl) de_M_reckon_190 (fun H locs hP hD hS => ?_)
        have hP : va_P (dC, dI) CLS (wM ad T (sF (sF (sF (sF (sF t 2 r_1) 3 1) 2 v_38) 3 r_1) 2 v_40)) H := hP
        have hD : va_D A (wM ad T (sF (sF (sF (sF (sF t 2 r_1) 3 1) 2 v_38) 3 r_1) 2 v_40)) := hD
        refine lv_aload_n hx hb de_M_reckon_193 rfl (lv_at hl 1 rfl) ?_
        refine lv_aload_n hx hb de_M_reckon_194 rfl (lv_at hl 1 rfl) ?_
        refine va_get (D := (dC, dI)) (ci := 9) (v := .long r_1) (C := "StabilitySumsModel") (T := TB_M) (N := 33) hx hb hts ui_M hown hK hP 0 rfl rfl 32 (by decide) (hts _ uw_728) (fun _ h9 => h9) rfl de_M_reckon_195 ?_
        refine lv_lneg hx hb de_M_reckon_198 ?_
        refine lv_topl (fun v_41 ev_41 => ?_)
        have ev_41 : v_41 = -r_1 := ev_41
        refine va_put (D := (dC, dI)) (ci := 9) (v := .long v_41) (ty := .long) (C := "StabilitySumsModel") (T := TB_M) (N := 33) hx hb hts ui_M tt_M tk_M nm_M hown hK hP hD hS 0 rfl rfl 32 (by decide) (hts _ uw_728) (fun _ h9 => h9) rfl (by decide +kernel) rfl rfl (Nat.le_of_ble_eq_true rfl) de_M_reckon_199 (fun H locs hP hD hS => ?_)
        have hP : va_P (dC, dI) CLS (wM ad T (sF (sF (sF (sF (sF (sF t 2 r_1) 3 1) 2 v_38) 3 r_1) 2 v_40) 3 v_41)) H := hP
        have hD : va_D A (wM ad T (sF (sF (sF (sF (sF (sF t 2 r_1) 3 1) 2 v_38) 3 r_1) 2 v_40) 3 v_41)) := hD
        have hfin : (sF (sF (sF (sF (sF (sF t 2 r_1) 3 1) 2 v_38) 3 r_1) 2 v_40) 3 v_41) = y_rk a0 t := by
          have hU9 : y_U0 a0 t = v_38 := by rw [y_U0, if_pos c_2, y_UA, if_pos c_3]; first | done | (subst_vars; rfl)
          have hD9 : y_D0 a0 t = r_1 := by rw [y_D0, if_pos c_2, y_DA, if_pos c_3]; first | done | (subst_vars; rfl)
          have hU8 : y_U a0 t = v_40 := by rw [y_U, hD9, hU9, if_neg c_39]; first | done | (subst_vars; rfl)
          have hD8 : y_D a0 t = v_41 := by rw [y_D, hD9, if_neg c_39]; first | done | (subst_vars; rfl)
          unfold y_rk; rw [hU8, hD8]; first | done | (simp only [sF_idem, sF_c32]; done) | (subst_vars; unfold y_tb; simp only [sF_idem, sF_c32]; done) | (subst_vars; unfold y_tb; simp only [sF_idem, sF_c32]; rfl)
        rw [hfin] at hP hD
        subst hQ
        exact W.vret hx hb hr (fun t9 ht hW => ⟨⟨(), rfl, trivial, by rw [ht]; exact hP, va_K.moved hW.alike hK, hD⟩, hS.F ht⟩) hS.2.2 de_M_reckon_202
  · skip
    refine lv_iload_n hx hb de_M_reckon_21 rfl (lv_at hl 2 rfl) ?_
    refine lv_iconst (v := 3) hx hb de_M_reckon_22 (by decide) ?_
    refine lv_icmp_gt (tgt := 43) hx hb de_M_reckon_23 (by decide) (fun c_42 => ?_) (fun c_42 => ?_)
    · skip
      refine lv_iload_n hx hb de_M_reckon_43 rfl (lv_at hl 2 rfl) ?_
      refine lv_iconst (v := 4) hx hb de_M_reckon_44 (by decide) ?_
      refine lv_icmp_ne (tgt := 70) hx hb de_M_reckon_45 (by decide) (fun c_43 => ?_) (fun c_43 => ?_)
      · skip
        refine lv_iload_n hx hb de_M_reckon_70 rfl (lv_at hl 2 rfl) ?_
        refine lv_iconst (v := 5) hx hb de_M_reckon_71 (by decide) ?_
        refine lv_icmp_ne (tgt := 120) hx hb de_M_reckon_72 (by decide) (fun c_44 => ?_) (fun c_44 => ?_)
        · skip
          refine lv_iload_n hx hb de_M_reckon_120 rfl (lv_at hl 2 rfl) ?_
          refine lv_bipush (v := 6) hx hb de_M_reckon_121 (by decide) ?_
          refine lv_icmp_ne (tgt := 135) hx hb de_M_reckon_123 (by decide) (fun c_45 => ?_) (fun c_45 => ?_)
          · skip
            refine lv_iload_n hx hb de_M_reckon_135 rfl (lv_at hl 2 rfl) ?_
            refine lv_bipush (v := 7) hx hb de_M_reckon_136 (by decide) ?_
            refine lv_icmp_ne (tgt := 175) hx hb de_M_reckon_138 (by decide) (fun c_46 => ?_) (fun c_46 => ?_)
            · skip
              refine lv_aload_n hx hb de_M_reckon_175 rfl (lv_at hl 1 rfl) ?_
              refine va_get (D := (dC, dI)) (ci := 9) (v := .long 1) (C := "StabilitySumsModel") (T := TB_M) (N := 33) hx hb hts ui_M hown hK hP 0 rfl rfl 32 (by decide) (hts _ uw_728) (fun _ h9 => h9) rfl de_M_reckon_176 ?_
              refine lv_lconst (v := 0) hx hb de_M_reckon_179 (by decide) ?_
              refine rw_ge (tgt := 202) hx hb de_M_reckon_180 de_M_reckon_181 (by decide) (fun c_47 => ?_) (fun c_47 => ?_)
              · skip
                have hfin : (sF (sF t 2 r_1) 3 1) = y_rk a0 t := by
                  have hU9 : y_U0 a0 t = r_1 := by rw [y_U0, if_neg c_2, if_pos c_42, y_UA, if_neg c_43, if_neg c_44, if_neg c_45, if_neg c_46]; first | done | (subst_vars; rfl)
                  have hD9 : y_D0 a0 t = 1 := by rw [y_D0, if_neg c_2, if_pos c_42, y_DA, if_neg c_43, if_neg c_44, if_neg c_45, if_neg c_46]; first | done | (subst_vars; rfl)
                  have hU8 : y_U a0 t = r_1 := by rw [y_U, hD9, hU9, if_pos c_47]; first | done | (subst_vars; rfl)
                  have hD8 : y_D a0 t = 1 := by rw [y_D, hD9, if_pos c_47]; first | done | (subst_vars; rfl)
                  unfold y_rk; rw [hU8, hD8]; first | done | (simp only [sF_idem, sF_c32]; done) | (subst_vars; unfold y_tb; simp only [sF_idem, sF_c32]; done) | (subst_vars; unfold y_tb; simp only [sF_idem, sF_c32]; rfl)
                rw [hfin] at hP hD
                subst hQ
                exact W.vret hx hb hr (fun t9 ht hW => ⟨⟨(), rfl, trivial, by rw [ht]; exact hP, va_K.moved hW.alike hK, hD⟩, hS.F ht⟩) hS.2.2 de_M_reckon_202
              · skip
                refine lv_aload_n hx hb de_M_reckon_184 rfl (lv_at hl 1 rfl) ?_
                refine lv_aload_n hx hb de_M_reckon_185 rfl (lv_at hl 1 rfl) ?_
                refine va_get (D := (dC, dI)) (ci := 9) (v := .long r_1) (C := "StabilitySumsModel") (T := TB_M) (N := 33) hx hb hts ui_M hown hK hP 0 rfl rfl 31 (by decide) (hts _ uw_727) (fun _ h9 => h9) rfl de_M_reckon_186 ?_
                refine lv_lneg hx hb de_M_reckon_189 ?_
                refine lv_topl (fun v_48 ev_48 => ?_)
                have ev_48 : v_48 = -r_1 := ev_48
                refine va_put (D := (dC, dI)) (ci := 9) (v := .long v_48) (ty := .long) (C := "StabilitySumsModel") (T := TB_M) (N := 33) hx hb hts ui_M tt_M tk_M nm_M hown hK hP hD hS 0 rfl rfl 31 (by decide) (hts _ uw_727) (fun _ h9 => h9) rfl (by decide +kernel) rfl rfl (Nat.le_of_ble_eq_true rfl) de_M_reckon_190 (fun H locs hP hD hS => ?_)
                have hP : va_P (dC, dI) CLS (wM ad T (sF (sF (sF t 2 r_1) 3 1) 2 v_48)) H := hP
                have hD : va_D A (wM ad T (sF (sF (sF t 2 r_1) 3 1) 2 v_48)) := hD
                refine lv_aload_n hx hb de_M_reckon_193 rfl (lv_at hl 1 rfl) ?_
                refine lv_aload_n hx hb de_M_reckon_194 rfl (lv_at hl 1 rfl) ?_
                refine va_get (D := (dC, dI)) (ci := 9) (v := .long 1) (C := "StabilitySumsModel") (T := TB_M) (N := 33) hx hb hts ui_M hown hK hP 0 rfl rfl 32 (by decide) (hts _ uw_728) (fun _ h9 => h9) rfl de_M_reckon_195 ?_
                refine lv_lneg hx hb de_M_reckon_198 ?_
                refine lv_topl (fun v_49 ev_49 => ?_)
                have ev_49 : v_49 = -1 := ev_49
                refine va_put (D := (dC, dI)) (ci := 9) (v := .long v_49) (ty := .long) (C := "StabilitySumsModel") (T := TB_M) (N := 33) hx hb hts ui_M tt_M tk_M nm_M hown hK hP hD hS 0 rfl rfl 32 (by decide) (hts _ uw_728) (fun _ h9 => h9) rfl (by decide +kernel) rfl rfl (Nat.le_of_ble_eq_true rfl) de_M_reckon_199 (fun H locs hP hD hS => ?_)
                have hP : va_P (dC, dI) CLS (wM ad T (sF (sF (sF (sF t 2 r_1) 3 1) 2 v_48) 3 v_49)) H := hP
                have hD : va_D A (wM ad T (sF (sF (sF (sF t 2 r_1) 3 1) 2 v_48) 3 v_49)) := hD
                have hfin : (sF (sF (sF (sF t 2 r_1) 3 1) 2 v_48) 3 v_49) = y_rk a0 t := by
                  have hU9 : y_U0 a0 t = r_1 := by rw [y_U0, if_neg c_2, if_pos c_42, y_UA, if_neg c_43, if_neg c_44, if_neg c_45, if_neg c_46]; first | done | (subst_vars; rfl)
                  have hD9 : y_D0 a0 t = 1 := by rw [y_D0, if_neg c_2, if_pos c_42, y_DA, if_neg c_43, if_neg c_44, if_neg c_45, if_neg c_46]; first | done | (subst_vars; rfl)
                  have hU8 : y_U a0 t = v_48 := by rw [y_U, hD9, hU9, if_neg c_47]; first | done | (subst_vars; rfl)
                  have hD8 : y_D a0 t = v_49 := by rw [y_D, hD9, if_neg c_47]; first | done | (subst_vars; rfl)
                  unfold y_rk; rw [hU8, hD8]; first | done | (simp only [sF_idem, sF_c32]; done) | (subst_vars; unfold y_tb; simp only [sF_idem, sF_c32]; done) | (subst_vars; unfold y_tb; simp only [sF_idem, sF_c32]; rfl)
                rw [hfin] at hP hD
                subst hQ
                exact W.vret hx hb hr (fun t9 ht hW => ⟨⟨(), rfl, trivial, by rw [ht]; exact hP, va_K.moved hW.alike hK, hD⟩, hS.F ht⟩) hS.2.2 de_M_reckon_202
            · skip
              refine lv_aload_n hx hb de_M_reckon_141 rfl (lv_at hl 1 rfl) ?_
              refine lv_ldc2 (v := 2) hx hb hown (hts _ uw_827) de_M_reckon_142 ?_
              refine lv_aload_n hx hb de_M_reckon_145 rfl (lv_at hl 1 rfl) ?_
              refine lv_iconst (v := 1) hx hb de_M_reckon_146 (by decide) ?_
              refine cl_Vl (As := [.int 1]) (rest := [.long 2, .ref (ad 0)]) ⟨hx, hb, hml, hown, hts⟩ (mt_M_sum l dC dI ad T (sF (sF t 2 r_1) 3 1) 1 (show IvM t from (by refine ⟨?_, ?_, ?_, ?_, ?_⟩ <;> omega))) (cwV 1 hts (uw_V uw_811 uw_813 uw_14 uw_36 uw_814) rfl rfl rfl (by decide +kernel) ⟨Nat.le_of_ble_eq_true rfl, Nat.le_of_ble_eq_true rfl⟩) (va_recv hK hP (ci := 9) (q0 := 0) rfl rfl) rfl hl.1 rfl (Nat.le_of_ble_eq_true rfl) de_M_reckon_147 ⟨Nat.zero_le _, Nat.zero_le _⟩ hK hN hP hD hS hA (fun r_50 _ H locs hw_50 hP hD hS => ?_)
              have hw_50 : r_50 = y_S 1 (sF (sF t 2 r_1) 3 1) := hw_50
              refine lv_lmul hx hb de_M_reckon_150 ?_
              refine lv_topl (fun v_51 ev_51 => ?_)
              have ev_51 : v_51 = 2 * r_50 := ev_51
              refine lv_lload_n hx hb de_M_reckon_151 rfl (lv_at hl 0 rfl) ?_
              refine lv_aload_n hx hb de_M_reckon_152 rfl (lv_at hl 1 rfl) ?_
              refine va_get (D := (dC, dI)) (ci := 9) (v := .long (t.2.2.1 0)) (C := "StabilitySumsModel") (T := TB_M) (N := 33) hx hb hts ui_M hown hK hP 0 rfl rfl 20 (by decide) (hts _ uw_716) (fun _ h9 => h9) rfl de_M_reckon_153 ?_
              refine lv_aload_n hx hb de_M_reckon_156 rfl (lv_at hl 1 rfl) ?_
              refine va_get (D := (dC, dI)) (ci := 9) (v := .long (t.2.2.1 1)) (C := "StabilitySumsModel") (T := TB_M) (N := 33) hx hb hts ui_M hown hK hP 0 rfl rfl 21 (by decide) (hts _ uw_717) (fun _ h9 => h9) rfl de_M_reckon_157 ?_
              refine lv_ladd hx hb de_M_reckon_160 ?_
              refine lv_topl (fun v_52 ev_52 => ?_)
              have ev_52 : v_52 = (t.2.2.1 0) + (t.2.2.1 1) := ev_52
              refine lv_lmul hx hb de_M_reckon_161 ?_
              refine lv_topl (fun v_53 ev_53 => ?_)
              have ev_53 : v_53 = r_1 * v_52 := ev_53
              refine lv_lsub hx hb de_M_reckon_162 ?_
              refine lv_topl (fun v_54 ev_54 => ?_)
              have ev_54 : v_54 = v_51 - v_53 := ev_54
              refine va_put (D := (dC, dI)) (ci := 9) (v := .long v_54) (ty := .long) (C := "StabilitySumsModel") (T := TB_M) (N := 33) hx hb hts ui_M tt_M tk_M nm_M hown hK hP hD hS 0 rfl rfl 31 (by decide) (hts _ uw_727) (fun _ h9 => h9) rfl (by decide +kernel) rfl rfl (Nat.le_of_ble_eq_true rfl) de_M_reckon_163 (fun H locs hP hD hS => ?_)
              have hP : va_P (dC, dI) CLS (wM ad T (sF (sF (sF t 2 r_1) 3 1) 2 v_54)) H := hP
              have hD : va_D A (wM ad T (sF (sF (sF t 2 r_1) 3 1) 2 v_54)) := hD
              refine lv_aload_n hx hb de_M_reckon_166 rfl (lv_at hl 1 rfl) ?_
              refine lv_ldc2 (v := 2) hx hb hown (hts _ uw_827) de_M_reckon_167 ?_
              refine lv_lload_n hx hb de_M_reckon_170 rfl (lv_at hl 0 rfl) ?_
              refine lv_lmul hx hb de_M_reckon_171 ?_
              refine lv_topl (fun v_55 ev_55 => ?_)
              have ev_55 : v_55 = 2 * r_1 := ev_55
              refine va_put (D := (dC, dI)) (ci := 9) (v := .long v_55) (ty := .long) (C := "StabilitySumsModel") (T := TB_M) (N := 33) hx hb hts ui_M tt_M tk_M nm_M hown hK hP hD hS 0 rfl rfl 32 (by decide) (hts _ uw_728) (fun _ h9 => h9) rfl (by decide +kernel) rfl rfl (Nat.le_of_ble_eq_true rfl) de_M_reckon_172 (fun H locs hP hD hS => ?_)
              have hP : va_P (dC, dI) CLS (wM ad T (sF (sF (sF (sF t 2 r_1) 3 1) 2 v_54) 3 v_55)) H := hP
              have hD : va_D A (wM ad T (sF (sF (sF (sF t 2 r_1) 3 1) 2 v_54) 3 v_55)) := hD
              refine lv_aload_n hx hb de_M_reckon_175 rfl (lv_at hl 1 rfl) ?_
              refine va_get (D := (dC, dI)) (ci := 9) (v := .long v_55) (C := "StabilitySumsModel") (T := TB_M) (N := 33) hx hb hts ui_M hown hK hP 0 rfl rfl 32 (by decide) (hts _ uw_728) (fun _ h9 => h9) rfl de_M_reckon_176 ?_
              refine lv_lconst (v := 0) hx hb de_M_reckon_179 (by decide) ?_
              refine rw_ge (tgt := 202) hx hb de_M_reckon_180 de_M_reckon_181 (by decide) (fun c_56 => ?_) (fun c_56 => ?_)
              · skip
                have hfin : (sF (sF (sF (sF t 2 r_1) 3 1) 2 v_54) 3 v_55) = y_rk a0 t := by
                  have hU9 : y_U0 a0 t = v_54 := by rw [y_U0, if_neg c_2, if_pos c_42, y_UA, if_neg c_43, if_neg c_44, if_neg c_45, if_pos c_46]; first | done | (subst_vars; rfl)
                  have hD9 : y_D0 a0 t = v_55 := by rw [y_D0, if_neg c_2, if_pos c_42, y_DA, if_neg c_43, if_neg c_44, if_neg c_45, if_pos c_46]; first | done | (subst_vars; rfl)
                  have hU8 : y_U a0 t = v_54 := by rw [y_U, hD9, hU9, if_pos c_56]; first | done | (subst_vars; rfl)
                  have hD8 : y_D a0 t = v_55 := by rw [y_D, hD9, if_pos c_56]; first | done | (subst_vars; rfl)
                  unfold y_rk; rw [hU8, hD8]; first | done | (simp only [sF_idem, sF_c32]; done) | (subst_vars; unfold y_tb; simp only [sF_idem, sF_c32]; done) | (subst_vars; unfold y_tb; simp only [sF_idem, sF_c32]; rfl)
                rw [hfin] at hP hD
                subst hQ
                exact W.vret hx hb hr (fun t9 ht hW => ⟨⟨(), rfl, trivial, by rw [ht]; exact hP, va_K.moved hW.alike hK, hD⟩, hS.F ht⟩) hS.2.2 de_M_reckon_202
              · skip
                refine lv_aload_n hx hb de_M_reckon_184 rfl (lv_at hl 1 rfl) ?_
                refine lv_aload_n hx hb de_M_reckon_185 rfl (lv_at hl 1 rfl) ?_
                refine va_get (D := (dC, dI)) (ci := 9) (v := .long v_54) (C := "StabilitySumsModel") (T := TB_M) (N := 33) hx hb hts ui_M hown hK hP 0 rfl rfl 31 (by decide) (hts _ uw_727) (fun _ h9 => h9) rfl de_M_reckon_186 ?_
                refine lv_lneg hx hb de_M_reckon_189 ?_
                refine lv_topl (fun v_57 ev_57 => ?_)
                have ev_57 : v_57 = -v_54 := ev_57
                refine va_put (D := (dC, dI)) (ci := 9) (v := .long v_57) (ty := .long) (C := "StabilitySumsModel") (T := TB_M) (N := 33) hx hb hts ui_M tt_M tk_M nm_M hown hK hP hD hS 0 rfl rfl 31 (by decide) (hts _ uw_727) (fun _ h9 => h9) rfl (by decide +kernel) rfl rfl (Nat.le_of_ble_eq_true rfl) de_M_reckon_190 (fun H locs hP hD hS => ?_)
                have hP : va_P (dC, dI) CLS (wM ad T (sF (sF (sF (sF (sF t 2 r_1) 3 1) 2 v_54) 3 v_55) 2 v_57)) H := hP
                have hD : va_D A (wM ad T (sF (sF (sF (sF (sF t 2 r_1) 3 1) 2 v_54) 3 v_55) 2 v_57)) := hD
                refine lv_aload_n hx hb de_M_reckon_193 rfl (lv_at hl 1 rfl) ?_
                refine lv_aload_n hx hb de_M_reckon_194 rfl (lv_at hl 1 rfl) ?_
                refine va_get (D := (dC, dI)) (ci := 9) (v := .long v_55) (C := "StabilitySumsModel") (T := TB_M) (N := 33) hx hb hts ui_M hown hK hP 0 rfl rfl 32 (by decide) (hts _ uw_728) (fun _ h9 => h9) rfl de_M_reckon_195 ?_
                refine lv_lneg hx hb de_M_reckon_198 ?_
                refine lv_topl (fun v_58 ev_58 => ?_)
                have ev_58 : v_58 = -v_55 := ev_58
                refine va_put (D := (dC, dI)) (ci := 9) (v := .long v_58) (ty := .long) (C := "StabilitySumsModel") (T := TB_M) (N := 33) hx hb hts ui_M tt_M tk_M nm_M hown hK hP hD hS 0 rfl rfl 32 (by decide) (hts _ uw_728) (fun _ h9 => h9) rfl (by decide +kernel) rfl rfl (Nat.le_of_ble_eq_true rfl) de_M_reckon_199 (fun H locs hP hD hS => ?_)
                have hP : va_P (dC, dI) CLS (wM ad T (sF (sF (sF (sF (sF (sF t 2 r_1) 3 1) 2 v_54) 3 v_55) 2 v_57) 3 v_58)) H := hP
                have hD : va_D A (wM ad T (sF (sF (sF (sF (sF (sF t 2 r_1) 3 1) 2 v_54) 3 v_55) 2 v_57) 3 v_58)) := hD
                have hfin : (sF (sF (sF (sF (sF (sF t 2 r_1) 3 1) 2 v_54) 3 v_55) 2 v_57) 3 v_58) = y_rk a0 t := by
                  have hU9 : y_U0 a0 t = v_54 := by rw [y_U0, if_neg c_2, if_pos c_42, y_UA, if_neg c_43, if_neg c_44, if_neg c_45, if_pos c_46]; first | done | (subst_vars; rfl)
                  have hD9 : y_D0 a0 t = v_55 := by rw [y_D0, if_neg c_2, if_pos c_42, y_DA, if_neg c_43, if_neg c_44, if_neg c_45, if_pos c_46]; first | done | (subst_vars; rfl)
                  have hU8 : y_U a0 t = v_57 := by rw [y_U, hD9, hU9, if_neg c_56]; first | done | (subst_vars; rfl)
                  have hD8 : y_D a0 t = v_58 := by rw [y_D, hD9, if_neg c_56]; first | done | (subst_vars; rfl)
                  unfold y_rk; rw [hU8, hD8]; first | done | (simp only [sF_idem, sF_c32]; done) | (subst_vars; unfold y_tb; simp only [sF_idem, sF_c32]; done) | (subst_vars; unfold y_tb; simp only [sF_idem, sF_c32]; rfl)
                rw [hfin] at hP hD
                subst hQ
                exact W.vret hx hb hr (fun t9 ht hW => ⟨⟨(), rfl, trivial, by rw [ht]; exact hP, va_K.moved hW.alike hK, hD⟩, hS.F ht⟩) hS.2.2 de_M_reckon_202
          · skip
            refine lv_aload_n hx hb de_M_reckon_126 rfl (lv_at hl 1 rfl) ?_
            refine lv_lload_n hx hb de_M_reckon_127 rfl (lv_at hl 0 rfl) ?_
            refine lv_iconst (v := 0) hx hb de_M_reckon_128 (by decide) ?_
            refine cl_Vv (As := [.long r_1, .int 0]) (rest := []) ⟨hx, hb, hml, hown, hts⟩ (mt_M_table0 l dC dI ad T (sF (sF t 2 r_1) 3 1) r_1 (show IvM t from (by refine ⟨?_, ?_, ?_, ?_, ?_⟩ <;> omega))) (cwV 2 hts (uw_V uw_823 uw_825 uw_17 uw_36 uw_826) rfl rfl rfl (by decide +kernel) ⟨Nat.le_of_ble_eq_true rfl, Nat.le_of_ble_eq_true rfl⟩) (va_recv hK hP (ci := 9) (q0 := 0) rfl rfl) rfl hl.1 rfl (Nat.le_of_ble_eq_true rfl) de_M_reckon_129 ⟨Nat.zero_le _, Nat.zero_le _⟩ hK hN hP hD hS hA (fun _ H locs hw_59 hP hD hS => ?_)
            obtain ⟨t_60, et_60⟩ : ∃ z, z = y_tb 15 r_1 (sF (sF t 2 r_1) 3 1) := ⟨_, rfl⟩
            have hP : va_P (dC, dI) CLS (wM ad T t_60) H := by rw [et_60]; exact hP
            have hD : va_D A (wM ad T t_60) := by rw [et_60]; exact hD
            obtain ⟨_, _, _, _, _, _⟩ : N6p t_60 t := by rw [et_60]; exact nsix rfl
            refine lv_goto (tgt := 175) hx hb de_M_reckon_132 (by decide) ?_
            refine lv_aload_n hx hb de_M_reckon_175 rfl (lv_at hl 1 rfl) ?_
            refine va_get (D := (dC, dI)) (ci := 9) (v := .long (t_60.2.2.1 3)) (C := "StabilitySumsModel") (T := TB_M) (N := 33) hx hb hts ui_M hown hK hP 0 rfl rfl 32 (by decide) (hts _ uw_728) (fun _ h9 => h9) rfl de_M_reckon_176 ?_
            refine lv_lconst (v := 0) hx hb de_M_reckon_179 (by decide) ?_
            refine rw_ge (tgt := 202) hx hb de_M_reckon_180 de_M_reckon_181 (by decide) (fun c_61 => ?_) (fun c_61 => ?_)
            · skip
              have hfin : t_60 = y_rk a0 t := by
                have hU9 : y_U0 a0 t = (t_60.2.2.1 2) := by rw [y_U0, if_neg c_2, if_pos c_42, y_UA, if_neg c_43, if_neg c_44, if_pos c_45]; first | done | (subst_vars; rfl)
                have hD9 : y_D0 a0 t = (t_60.2.2.1 3) := by rw [y_D0, if_neg c_2, if_pos c_42, y_DA, if_neg c_43, if_neg c_44, if_pos c_45]; first | done | (subst_vars; rfl)
                have hU8 : y_U a0 t = (t_60.2.2.1 2) := by rw [y_U, hD9, hU9, if_pos c_61]; first | done | (subst_vars; rfl)
                have hD8 : y_D a0 t = (t_60.2.2.1 3) := by rw [y_D, hD9, if_pos c_61]; first | done | (subst_vars; rfl)
                unfold y_rk; rw [hU8, hD8]; first | done | (simp only [sF_idem, sF_c32]; done) | (subst_vars; unfold y_tb; simp only [sF_idem, sF_c32]; done) | (subst_vars; unfold y_tb; simp only [sF_idem, sF_c32]; rfl)
              rw [hfin] at hP hD
              subst hQ
              exact W.vret hx hb hr (fun t9 ht hW => ⟨⟨(), rfl, trivial, by rw [ht]; exact hP, va_K.moved hW.alike hK, hD⟩, hS.F ht⟩) hS.2.2 de_M_reckon_202
            · skip
              refine lv_aload_n hx hb de_M_reckon_184 rfl (lv_at hl 1 rfl) ?_
              refine lv_aload_n hx hb de_M_reckon_185 rfl (lv_at hl 1 rfl) ?_
              refine va_get (D := (dC, dI)) (ci := 9) (v := .long (t_60.2.2.1 2)) (C := "StabilitySumsModel") (T := TB_M) (N := 33) hx hb hts ui_M hown hK hP 0 rfl rfl 31 (by decide) (hts _ uw_727) (fun _ h9 => h9) rfl de_M_reckon_186 ?_
              refine lv_lneg hx hb de_M_reckon_189 ?_
              refine lv_topl (fun v_62 ev_62 => ?_)
              have ev_62 : v_62 = -(t_60.2.2.1 2) := ev_62
              refine va_put (D := (dC, dI)) (ci := 9) (v := .long v_62) (ty := .long) (C := "StabilitySumsModel") (T := TB_M) (N := 33) hx hb hts ui_M tt_M tk_M nm_M hown hK hP hD hS 0 rfl rfl 31 (by decide) (hts _ uw_727) (fun _ h9 => h9) rfl (by decide +kernel) rfl rfl (Nat.le_of_ble_eq_true rfl) de_M_reckon_190 (fun H locs hP hD hS => ?_)
              have hP : va_P (dC, dI) CLS (wM ad T (sF t_60 2 v_62)) H := hP
              have hD : va_D A (wM ad T (sF t_60 2 v_62)) := hD
              refine lv_aload_n hx hb de_M_reckon_193 rfl (lv_at hl 1 rfl) ?_
              refine lv_aload_n hx hb de_M_reckon_194 rfl (lv_at hl 1 rfl) ?_
              refine va_get (D := (dC, dI)) (ci := 9) (v := .long (t_60.2.2.1 3)) (C := "StabilitySumsModel") (T := TB_M) (N := 33) hx hb hts ui_M hown hK hP 0 rfl rfl 32 (by decide) (hts _ uw_728) (fun _ h9 => h9) rfl de_M_reckon_195 ?_
              refine lv_lneg hx hb de_M_reckon_198 ?_
              refine lv_topl (fun v_63 ev_63 => ?_)
              have ev_63 : v_63 = -(t_60.2.2.1 3) := ev_63
              refine va_put (D := (dC, dI)) (ci := 9) (v := .long v_63) (ty := .long) (C := "StabilitySumsModel") (T := TB_M) (N := 33) hx hb hts ui_M tt_M tk_M nm_M hown hK hP hD hS 0 rfl rfl 32 (by decide) (hts _ uw_728) (fun _ h9 => h9) rfl (by decide +kernel) rfl rfl (Nat.le_of_ble_eq_true rfl) de_M_reckon_199 (fun H locs hP hD hS => ?_)
              have hP : va_P (dC, dI) CLS (wM ad T (sF (sF t_60 2 v_62) 3 v_63)) H := hP
              have hD : va_D A (wM ad T (sF (sF t_60 2 v_62) 3 v_63)) := hD
              have hfin : (sF (sF t_60 2 v_62) 3 v_63) = y_rk a0 t := by
                have hU9 : y_U0 a0 t = (t_60.2.2.1 2) := by rw [y_U0, if_neg c_2, if_pos c_42, y_UA, if_neg c_43, if_neg c_44, if_pos c_45]; first | done | (subst_vars; rfl)
                have hD9 : y_D0 a0 t = (t_60.2.2.1 3) := by rw [y_D0, if_neg c_2, if_pos c_42, y_DA, if_neg c_43, if_neg c_44, if_pos c_45]; first | done | (subst_vars; rfl)
                have hU8 : y_U a0 t = v_62 := by rw [y_U, hD9, hU9, if_neg c_61]; first | done | (subst_vars; rfl)
                have hD8 : y_D a0 t = v_63 := by rw [y_D, hD9, if_neg c_61]; first | done | (subst_vars; rfl)
                unfold y_rk; rw [hU8, hD8]; first | done | (simp only [sF_idem, sF_c32]; done) | (subst_vars; unfold y_tb; simp only [sF_idem, sF_c32]; done) | (subst_vars; unfold y_tb; simp only [sF_idem, sF_c32]; rfl)
              rw [hfin] at hP hD
              subst hQ
              exact W.vret hx hb hr (fun t9 ht hW => ⟨⟨(), rfl, trivial, by rw [ht]; exact hP, va_K.moved hW.alike hK, hD⟩, hS.F ht⟩) hS.2.2 de_M_reckon_202
        · skip
          refine lv_aload_n hx hb de_M_reckon_75 rfl (lv_at hl 1 rfl) ?_
          refine lv_lload_n hx hb de_M_reckon_76 rfl (lv_at hl 0 rfl) ?_
          refine lv_iconst (v := 1) hx hb de_M_reckon_77 (by decide) ?_
          refine cl_Vv (As := [.long r_1, .int 1]) (rest := []) ⟨hx, hb, hml, hown, hts⟩ (mt_M_table1 l dC dI ad T (sF (sF t 2 r_1) 3 1) r_1 (show IvM t from (by refine ⟨?_, ?_, ?_, ?_, ?_⟩ <;> omega))) (cwV 2 hts (uw_V uw_823 uw_825 uw_17 uw_36 uw_826) rfl rfl rfl (by decide +kernel) ⟨Nat.le_of_ble_eq_true rfl, Nat.le_of_ble_eq_true rfl⟩) (va_recv hK hP (ci := 9) (q0 := 0) rfl rfl) rfl hl.1 rfl (Nat.le_of_ble_eq_true rfl) de_M_reckon_78 ⟨Nat.zero_le _, Nat.zero_le _⟩ hK hN hP hD hS hA (fun _ H locs hw_64 hP hD hS => ?_)
          obtain ⟨t_65, et_65⟩ : ∃ z, z = y_tb 14 r_1 (sF (sF t 2 r_1) 3 1) := ⟨_, rfl⟩
          have hP : va_P (dC, dI) CLS (wM ad T t_65) H := by rw [et_65]; exact hP
          have hD : va_D A (wM ad T t_65) := by rw [et_65]; exact hD
          obtain ⟨_, _, _, _, _, _⟩ : N6p t_65 t := by rw [et_65]; exact nsix rfl
          refine lv_aload_n hx hb de_M_reckon_81 rfl (lv_at hl 1 rfl) ?_
          refine lv_aload_n hx hb de_M_reckon_82 rfl (lv_at hl 1 rfl) ?_
          refine va_get (D := (dC, dI)) (ci := 9) (v := .long (t_65.2.2.1 2)) (C := "StabilitySumsModel") (T := TB_M) (N := 33) hx hb hts ui_M hown hK hP 0 rfl rfl 31 (by decide) (hts _ uw_727) (fun _ h9 => h9) rfl de_M_reckon_83 ?_
          refine lv_lload_n hx hb de_M_reckon_86 rfl (lv_at hl 0 rfl) ?_
          refine lv_lmul hx hb de_M_reckon_87 ?_
          refine lv_topl (fun v_66 ev_66 => ?_)
          have ev_66 : v_66 = (t_65.2.2.1 2) * r_1 := ev_66
          refine lv_aload_n hx hb de_M_reckon_88 rfl (lv_at hl 1 rfl) ?_
          refine lv_iconst (v := 3) hx hb de_M_reckon_89 (by decide) ?_
          refine cl_Vl (As := [.int 3]) (rest := [.long v_66, .ref (ad 0)]) ⟨hx, hb, hml, hown, hts⟩ (mt_M_sum l dC dI ad T t_65 3 (show IvM t_65 from (by refine ⟨?_, ?_, ?_, ?_, ?_⟩ <;> omega))) (cwV 1 hts (uw_V uw_811 uw_813 uw_14 uw_36 uw_814) rfl rfl rfl (by decide +kernel) ⟨Nat.le_of_ble_eq_true rfl, Nat.le_of_ble_eq_true rfl⟩) (va_recv hK hP (ci := 9) (q0 := 0) rfl rfl) rfl hl.1 rfl (Nat.le_of_ble_eq_true rfl) de_M_reckon_90 ⟨Nat.zero_le _, Nat.zero_le _⟩ hK hN hP hD hS hA (fun r_67 _ H locs hw_67 hP hD hS => ?_)
          have hw_67 : r_67 = y_S 3 t_65 := hw_67
          refine lv_aload_n hx hb de_M_reckon_93 rfl (lv_at hl 1 rfl) ?_
          refine cl_Vl (As := []) (rest := [.long r_67, .long v_66, .ref (ad 0)]) ⟨hx, hb, hml, hown, hts⟩ (mt_M_free l dC dI ad T t_65 (show IvM t_65 from (by refine ⟨?_, ?_, ?_, ?_, ?_⟩ <;> omega))) (cwV 0 hts (uw_V uw_819 uw_821 uw_16 uw_36 uw_822) rfl rfl rfl (by decide +kernel) ⟨Nat.le_of_ble_eq_true rfl, Nat.le_of_ble_eq_true rfl⟩) (va_recv hK hP (ci := 9) (q0 := 0) rfl rfl) rfl hl.1 rfl (Nat.le_of_ble_eq_true rfl) de_M_reckon_94 ⟨Nat.zero_le _, Nat.zero_le _⟩ hK hN hP hD hS hA (fun r_68 _ H locs hw_68 hP hD hS => ?_)
          have hw_68 : r_68 = y_R t_65 := hw_68
          refine lv_ladd hx hb de_M_reckon_97 ?_
          refine lv_topl (fun v_69 ev_69 => ?_)
          have ev_69 : v_69 = r_67 + r_68 := ev_69
          refine lv_aload_n hx hb de_M_reckon_98 rfl (lv_at hl 1 rfl) ?_
          refine va_get (D := (dC, dI)) (ci := 9) (v := .long (t_65.2.2.1 3)) (C := "StabilitySumsModel") (T := TB_M) (N := 33) hx hb hts ui_M hown hK hP 0 rfl rfl 32 (by decide) (hts _ uw_728) (fun _ h9 => h9) rfl de_M_reckon_99 ?_
          refine lv_lmul hx hb de_M_reckon_102 ?_
          refine lv_topl (fun v_70 ev_70 => ?_)
          have ev_70 : v_70 = v_69 * (t_65.2.2.1 3) := ev_70
          refine lv_lsub hx hb de_M_reckon_103 ?_
          refine lv_topl (fun v_71 ev_71 => ?_)
          have ev_71 : v_71 = v_66 - v_70 := ev_71
          refine va_put (D := (dC, dI)) (ci := 9) (v := .long v_71) (ty := .long) (C := "StabilitySumsModel") (T := TB_M) (N := 33) hx hb hts ui_M tt_M tk_M nm_M hown hK hP hD hS 0 rfl rfl 31 (by decide) (hts _ uw_727) (fun _ h9 => h9) rfl (by decide +kernel) rfl rfl (Nat.le_of_ble_eq_true rfl) de_M_reckon_104 (fun H locs hP hD hS => ?_)
          have hP : va_P (dC, dI) CLS (wM ad T (sF t_65 2 v_71)) H := hP
          have hD : va_D A (wM ad T (sF t_65 2 v_71)) := hD
          refine lv_aload_n hx hb de_M_reckon_107 rfl (lv_at hl 1 rfl) ?_
          refine lv_aload_n hx hb de_M_reckon_108 rfl (lv_at hl 1 rfl) ?_
          refine va_get (D := (dC, dI)) (ci := 9) (v := .long (t_65.2.2.1 3)) (C := "StabilitySumsModel") (T := TB_M) (N := 33) hx hb hts ui_M hown hK hP 0 rfl rfl 32 (by decide) (hts _ uw_728) (fun _ h9 => h9) rfl de_M_reckon_109 ?_
          refine lv_lload_n hx hb de_M_reckon_112 rfl (lv_at hl 0 rfl) ?_
          refine lv_lmul hx hb de_M_reckon_113 ?_
          refine lv_topl (fun v_72 ev_72 => ?_)
          have ev_72 : v_72 = (t_65.2.2.1 3) * r_1 := ev_72
          refine va_put (D := (dC, dI)) (ci := 9) (v := .long v_72) (ty := .long) (C := "StabilitySumsModel") (T := TB_M) (N := 33) hx hb hts ui_M tt_M tk_M nm_M hown hK hP hD hS 0 rfl rfl 32 (by decide) (hts _ uw_728) (fun _ h9 => h9) rfl (by decide +kernel) rfl rfl (Nat.le_of_ble_eq_true rfl) de_M_reckon_114 (fun H locs hP hD hS => ?_)
          have hP : va_P (dC, dI) CLS (wM ad T (sF (sF t_65 2 v_71) 3 v_72)) H := hP
          have hD : va_D A (wM ad T (sF (sF t_65 2 v_71) 3 v_72)) := hD
          refine lv_goto (tgt := 175) hx hb de_M_reckon_117 (by decide) ?_
          refine lv_aload_n hx hb de_M_reckon_175 rfl (lv_at hl 1 rfl) ?_
          refine va_get (D := (dC, dI)) (ci := 9) (v := .long v_72) (C := "StabilitySumsModel") (T := TB_M) (N := 33) hx hb hts ui_M hown hK hP 0 rfl rfl 32 (by decide) (hts _ uw_728) (fun _ h9 => h9) rfl de_M_reckon_176 ?_
          refine lv_lconst (v := 0) hx hb de_M_reckon_179 (by decide) ?_
          refine rw_ge (tgt := 202) hx hb de_M_reckon_180 de_M_reckon_181 (by decide) (fun c_73 => ?_) (fun c_73 => ?_)
          · skip
            have hfin : (sF (sF t_65 2 v_71) 3 v_72) = y_rk a0 t := by
              have hU9 : y_U0 a0 t = v_71 := by rw [y_U0, if_neg c_2, if_pos c_42, y_UA, if_neg c_43, if_pos c_44]; first | done | (subst_vars; rfl)
              have hD9 : y_D0 a0 t = v_72 := by rw [y_D0, if_neg c_2, if_pos c_42, y_DA, if_neg c_43, if_pos c_44]; first | done | (subst_vars; rfl)
              have hU8 : y_U a0 t = v_71 := by rw [y_U, hD9, hU9, if_pos c_73]; first | done | (subst_vars; rfl)
              have hD8 : y_D a0 t = v_72 := by rw [y_D, hD9, if_pos c_73]; first | done | (subst_vars; rfl)
              unfold y_rk; rw [hU8, hD8]; first | done | (simp only [sF_idem, sF_c32]; done) | (subst_vars; unfold y_tb; simp only [sF_idem, sF_c32]; done) | (subst_vars; unfold y_tb; simp only [sF_idem, sF_c32]; rfl)
            rw [hfin] at hP hD
            subst hQ
            exact W.vret hx hb hr (fun t9 ht hW => ⟨⟨(), rfl, trivial, by rw [ht]; exact hP, va_K.moved hW.alike hK, hD⟩, hS.F ht⟩) hS.2.2 de_M_reckon_202
          · skip
            refine lv_aload_n hx hb de_M_reckon_184 rfl (lv_at hl 1 rfl) ?_
            refine lv_aload_n hx hb de_M_reckon_185 rfl (lv_at hl 1 rfl) ?_
            refine va_get (D := (dC, dI)) (ci := 9) (v := .long v_71) (C := "StabilitySumsModel") (T := TB_M) (N := 33) hx hb hts ui_M hown hK hP 0 rfl rfl 31 (by decide) (hts _ uw_727) (fun _ h9 => h9) rfl de_M_reckon_186 ?_
            refine lv_lneg hx hb de_M_reckon_189 ?_
            refine lv_topl (fun v_74 ev_74 => ?_)
            have ev_74 : v_74 = -v_71 := ev_74
            refine va_put (D := (dC, dI)) (ci := 9) (v := .long v_74) (ty := .long) (C := "StabilitySumsModel") (T := TB_M) (N := 33) hx hb hts ui_M tt_M tk_M nm_M hown hK hP hD hS 0 rfl rfl 31 (by decide) (hts _ uw_727) (fun _ h9 => h9) rfl (by decide +kernel) rfl rfl (Nat.le_of_ble_eq_true rfl) de_M_reckon_190 (fun H locs hP hD hS => ?_)
            have hP : va_P (dC, dI) CLS (wM ad T (sF (sF (sF t_65 2 v_71) 3 v_72) 2 v_74)) H := hP
            have hD : va_D A (wM ad T (sF (sF (sF t_65 2 v_71) 3 v_72) 2 v_74)) := hD
            refine lv_aload_n hx hb de_M_reckon_193 rfl (lv_at hl 1 rfl) ?_
            refine lv_aload_n hx hb de_M_reckon_194 rfl (lv_at hl 1 rfl) ?_
            refine va_get (D := (dC, dI)) (ci := 9) (v := .long v_72) (C := "StabilitySumsModel") (T := TB_M) (N := 33) hx hb hts ui_M hown hK hP 0 rfl rfl 32 (by decide) (hts _ uw_728) (fun _ h9 => h9) rfl de_M_reckon_195 ?_
            refine lv_lneg hx hb de_M_reckon_198 ?_
            refine lv_topl (fun v_75 ev_75 => ?_)
            have ev_75 : v_75 = -v_72 := ev_75
            refine va_put (D := (dC, dI)) (ci := 9) (v := .long v_75) (ty := .long) (C := "StabilitySumsModel") (T := TB_M) (N := 33) hx hb hts ui_M tt_M tk_M nm_M hown hK hP hD hS 0 rfl rfl 32 (by decide) (hts _ uw_728) (fun _ h9 => h9) rfl (by decide +kernel) rfl rfl (Nat.le_of_ble_eq_true rfl) de_M_reckon_199 (fun H locs hP hD hS => ?_)
            have hP : va_P (dC, dI) CLS (wM ad T (sF (sF (sF (sF t_65 2 v_71) 3 v_72) 2 v_74) 3 v_75)) H := hP
            have hD : va_D A (wM ad T (sF (sF (sF (sF t_65 2 v_71) 3 v_72) 2 v_74) 3 v_75)) := hD
            have hfin : (sF (sF (sF (sF t_65 2 v_71) 3 v_72) 2 v_74) 3 v_75) = y_rk a0 t := by
              have hU9 : y_U0 a0 t = v_71 := by rw [y_U0, if_neg c_2, if_pos c_42, y_UA, if_neg c_43, if_pos c_44]; first | done | (subst_vars; rfl)
              have hD9 : y_D0 a0 t = v_72 := by rw [y_D0, if_neg c_2, if_pos c_42, y_DA, if_neg c_43, if_pos c_44]; first | done | (subst_vars; rfl)
              have hU8 : y_U a0 t = v_74 := by rw [y_U, hD9, hU9, if_neg c_73]; first | done | (subst_vars; rfl)
              have hD8 : y_D a0 t = v_75 := by rw [y_D, hD9, if_neg c_73]; first | done | (subst_vars; rfl)
              unfold y_rk; rw [hU8, hD8]; first | done | (simp only [sF_idem, sF_c32]; done) | (subst_vars; unfold y_tb; simp only [sF_idem, sF_c32]; done) | (subst_vars; unfold y_tb; simp only [sF_idem, sF_c32]; rfl)
            rw [hfin] at hP hD
            subst hQ
            exact W.vret hx hb hr (fun t9 ht hW => ⟨⟨(), rfl, trivial, by rw [ht]; exact hP, va_K.moved hW.alike hK, hD⟩, hS.F ht⟩) hS.2.2 de_M_reckon_202
      · skip
        refine lv_aload_n hx hb de_M_reckon_48 rfl (lv_at hl 1 rfl) ?_
        refine lv_aload_n hx hb de_M_reckon_49 rfl (lv_at hl 1 rfl) ?_
        refine lv_iconst (v := 3) hx hb de_M_reckon_50 (by decide) ?_
        refine cl_Vl (As := [.int 3]) (rest := [.ref (ad 0)]) ⟨hx, hb, hml, hown, hts⟩ (mt_M_sum l dC dI ad T (sF (sF t 2 r_1) 3 1) 3 (show IvM t from (by refine ⟨?_, ?_, ?_, ?_, ?_⟩ <;> omega))) (cwV 1 hts (uw_V uw_811 uw_813 uw_14 uw_36 uw_814) rfl rfl rfl (by decide +kernel) ⟨Nat.le_of_ble_eq_true rfl, Nat.le_of_ble_eq_true rfl⟩) (va_recv hK hP (ci := 9) (q0 := 0) rfl rfl) rfl hl.1 rfl (Nat.le_of_ble_eq_true rfl) de_M_reckon_51 ⟨Nat.zero_le _, Nat.zero_le _⟩ hK hN hP hD hS hA (fun r_76 _ H locs hw_76 hP hD hS => ?_)
        have hw_76 : r_76 = y_S 3 (sF (sF t 2 r_1) 3 1) := hw_76
        refine lv_aload_n hx hb de_M_reckon_54 rfl (lv_at hl 1 rfl) ?_
        refine cl_Vl (As := []) (rest := [.long r_76, .ref (ad 0)]) ⟨hx, hb, hml, hown, hts⟩ (mt_M_free l dC dI ad T (sF (sF t 2 r_1) 3 1) (show IvM t from (by refine ⟨?_, ?_, ?_, ?_, ?_⟩ <;> omega))) (cwV 0 hts (uw_V uw_819 uw_821 uw_16 uw_36 uw_822) rfl rfl rfl (by decide +kernel) ⟨Nat.le_of_ble_eq_true rfl, Nat.le_of_ble_eq_true rfl⟩) (va_recv hK hP (ci := 9) (q0 := 0) rfl rfl) rfl hl.1 rfl (Nat.le_of_ble_eq_true rfl) de_M_reckon_55 ⟨Nat.zero_le _, Nat.zero_le _⟩ hK hN hP hD hS hA (fun r_77 _ H locs hw_77 hP hD hS => ?_)
        have hw_77 : r_77 = y_R (sF (sF t 2 r_1) 3 1) := hw_77
        refine lv_ladd hx hb de_M_reckon_58 ?_
        refine lv_topl (fun v_78 ev_78 => ?_)
        have ev_78 : v_78 = r_76 + r_77 := ev_78
        refine va_put (D := (dC, dI)) (ci := 9) (v := .long v_78) (ty := .long) (C := "StabilitySumsModel") (T := TB_M) (N := 33) hx hb hts ui_M tt_M tk_M nm_M hown hK hP hD hS 0 rfl rfl 31 (by decide) (hts _ uw_727) (fun _ h9 => h9) rfl (by decide +kernel) rfl rfl (Nat.le_of_ble_eq_true rfl) de_M_reckon_59 (fun H locs hP hD hS => ?_)
        have hP : va_P (dC, dI) CLS (wM ad T (sF (sF (sF t 2 r_1) 3 1) 2 v_78)) H := hP
        have hD : va_D A (wM ad T (sF (sF (sF t 2 r_1) 3 1) 2 v_78)) := hD
        refine lv_aload_n hx hb de_M_reckon_62 rfl (lv_at hl 1 rfl) ?_
        refine lv_lload_n hx hb de_M_reckon_63 rfl (lv_at hl 0 rfl) ?_
        refine va_put (D := (dC, dI)) (ci := 9) (v := .long r_1) (ty := .long) (C := "StabilitySumsModel") (T := TB_M) (N := 33) hx hb hts ui_M tt_M tk_M nm_M hown hK hP hD hS 0 rfl rfl 32 (by decide) (hts _ uw_728) (fun _ h9 => h9) rfl (by decide +kernel) rfl rfl (Nat.le_of_ble_eq_true rfl) de_M_reckon_64 (fun H locs hP hD hS => ?_)
        have hP : va_P (dC, dI) CLS (wM ad T (sF (sF (sF (sF t 2 r_1) 3 1) 2 v_78) 3 r_1)) H := hP
        have hD : va_D A (wM ad T (sF (sF (sF (sF t 2 r_1) 3 1) 2 v_78) 3 r_1)) := hD
        refine lv_goto (tgt := 175) hx hb de_M_reckon_67 (by decide) ?_
        refine lv_aload_n hx hb de_M_reckon_175 rfl (lv_at hl 1 rfl) ?_
        refine va_get (D := (dC, dI)) (ci := 9) (v := .long r_1) (C := "StabilitySumsModel") (T := TB_M) (N := 33) hx hb hts ui_M hown hK hP 0 rfl rfl 32 (by decide) (hts _ uw_728) (fun _ h9 => h9) rfl de_M_reckon_176 ?_
        refine lv_lconst (v := 0) hx hb de_M_reckon_179 (by decide) ?_
        refine rw_ge (tgt := 202) hx hb de_M_reckon_180 de_M_reckon_181 (by decide) (fun c_79 => ?_) (fun c_79 => ?_)
        · skip
          have hfin : (sF (sF (sF (sF t 2 r_1) 3 1) 2 v_78) 3 r_1) = y_rk a0 t := by
            have hU9 : y_U0 a0 t = v_78 := by rw [y_U0, if_neg c_2, if_pos c_42, y_UA, if_pos c_43]; first | done | (subst_vars; rfl)
            have hD9 : y_D0 a0 t = r_1 := by rw [y_D0, if_neg c_2, if_pos c_42, y_DA, if_pos c_43]; first | done | (subst_vars; rfl)
            have hU8 : y_U a0 t = v_78 := by rw [y_U, hD9, hU9, if_pos c_79]; first | done | (subst_vars; rfl)
            have hD8 : y_D a0 t = r_1 := by rw [y_D, hD9, if_pos c_79]; first | done | (subst_vars; rfl)
            unfold y_rk; rw [hU8, hD8]; first | done | (simp only [sF_idem, sF_c32]; done) | (subst_vars; unfold y_tb; simp only [sF_idem, sF_c32]; done) | (subst_vars; unfold y_tb; simp only [sF_idem, sF_c32]; rfl)
          rw [hfin] at hP hD
          subst hQ
          exact W.vret hx hb hr (fun t9 ht hW => ⟨⟨(), rfl, trivial, by rw [ht]; exact hP, va_K.moved hW.alike hK, hD⟩, hS.F ht⟩) hS.2.2 de_M_reckon_202
        · skip
          refine lv_aload_n hx hb de_M_reckon_184 rfl (lv_at hl 1 rfl) ?_
          refine lv_aload_n hx hb de_M_reckon_185 rfl (lv_at hl 1 rfl) ?_
          refine va_get (D := (dC, dI)) (ci := 9) (v := .long v_78) (C := "StabilitySumsModel") (T := TB_M) (N := 33) hx hb hts ui_M hown hK hP 0 rfl rfl 31 (by decide) (hts _ uw_727) (fun _ h9 => h9) rfl de_M_reckon_186 ?_
          refine lv_lneg hx hb de_M_reckon_189 ?_
          refine lv_topl (fun v_80 ev_80 => ?_)
          have ev_80 : v_80 = -v_78 := ev_80
          refine va_put (D := (dC, dI)) (ci := 9) (v := .long v_80) (ty := .long) (C := "StabilitySumsModel") (T := TB_M) (N := 33) hx hb hts ui_M tt_M tk_M nm_M hown hK hP hD hS 0 rfl rfl 31 (by decide) (hts _ uw_727) (fun _ h9 => h9) rfl (by decide +kernel) rfl rfl (Nat.le_of_ble_eq_true rfl) de_M_reckon_190 (fun H locs hP hD hS => ?_)
          have hP : va_P (dC, dI) CLS (wM ad T (sF (sF (sF (sF (sF t 2 r_1) 3 1) 2 v_78) 3 r_1) 2 v_80)) H := hP
          have hD : va_D A (wM ad T (sF (sF (sF (sF (sF t 2 r_1) 3 1) 2 v_78) 3 r_1) 2 v_80)) := hD
          refine lv_aload_n hx hb de_M_reckon_193 rfl (lv_at hl 1 rfl) ?_
          refine lv_aload_n hx hb de_M_reckon_194 rfl (lv_at hl 1 rfl) ?_
          refine va_get (D := (dC, dI)) (ci := 9) (v := .long r_1) (C := "StabilitySumsModel") (T := TB_M) (N := 33) hx hb hts ui_M hown hK hP 0 rfl rfl 32 (by decide) (hts _ uw_728) (fun _ h9 => h9) rfl de_M_reckon_195 ?_
          refine lv_lneg hx hb de_M_reckon_198 ?_
          refine lv_topl (fun v_81 ev_81 => ?_)
          have ev_81 : v_81 = -r_1 := ev_81
          refine va_put (D := (dC, dI)) (ci := 9) (v := .long v_81) (ty := .long) (C := "StabilitySumsModel") (T := TB_M) (N := 33) hx hb hts ui_M tt_M tk_M nm_M hown hK hP hD hS 0 rfl rfl 32 (by decide) (hts _ uw_728) (fun _ h9 => h9) rfl (by decide +kernel) rfl rfl (Nat.le_of_ble_eq_true rfl) de_M_reckon_199 (fun H locs hP hD hS => ?_)
          have hP : va_P (dC, dI) CLS (wM ad T (sF (sF (sF (sF (sF (sF t 2 r_1) 3 1) 2 v_78) 3 r_1) 2 v_80) 3 v_81)) H := hP
          have hD : va_D A (wM ad T (sF (sF (sF (sF (sF (sF t 2 r_1) 3 1) 2 v_78) 3 r_1) 2 v_80) 3 v_81)) := hD
          have hfin : (sF (sF (sF (sF (sF (sF t 2 r_1) 3 1) 2 v_78) 3 r_1) 2 v_80) 3 v_81) = y_rk a0 t := by
            have hU9 : y_U0 a0 t = v_78 := by rw [y_U0, if_neg c_2, if_pos c_42, y_UA, if_pos c_43]; first | done | (subst_vars; rfl)
            have hD9 : y_D0 a0 t = r_1 := by rw [y_D0, if_neg c_2, if_pos c_42, y_DA, if_pos c_43]; first | done | (subst_vars; rfl)
            have hU8 : y_U a0 t = v_80 := by rw [y_U, hD9, hU9, if_neg c_79]; first | done | (subst_vars; rfl)
            have hD8 : y_D a0 t = v_81 := by rw [y_D, hD9, if_neg c_79]; first | done | (subst_vars; rfl)
            unfold y_rk; rw [hU8, hD8]; first | done | (simp only [sF_idem, sF_c32]; done) | (subst_vars; unfold y_tb; simp only [sF_idem, sF_c32]; done) | (subst_vars; unfold y_tb; simp only [sF_idem, sF_c32]; rfl)
          rw [hfin] at hP hD
          subst hQ
          exact W.vret hx hb hr (fun t9 ht hW => ⟨⟨(), rfl, trivial, by rw [ht]; exact hP, va_K.moved hW.alike hK, hD⟩, hS.F ht⟩) hS.2.2 de_M_reckon_202
    · skip
      refine lv_aload_n hx hb de_M_reckon_26 rfl (lv_at hl 1 rfl) ?_
      refine lv_aload_n hx hb de_M_reckon_27 rfl (lv_at hl 1 rfl) ?_
      refine lv_iload_n hx hb de_M_reckon_28 rfl (lv_at hl 2 rfl) ?_
      refine cl_Vl (As := [.int a0]) (rest := [.ref (ad 0)]) ⟨hx, hb, hml, hown, hts⟩ (mt_M_sum l dC dI ad T (sF (sF t 2 r_1) 3 1) a0 (show IvM t from (by refine ⟨?_, ?_, ?_, ?_, ?_⟩ <;> omega))) (cwV 1 hts (uw_V uw_811 uw_813 uw_14 uw_36 uw_814) rfl rfl rfl (by decide +kernel) ⟨Nat.le_of_ble_eq_true rfl, Nat.le_of_ble_eq_true rfl⟩) (va_recv hK hP (ci := 9) (q0 := 0) rfl rfl) rfl hl.1 rfl (Nat.le_of_ble_eq_true rfl) de_M_reckon_29 ⟨Nat.zero_le _, Nat.zero_le _⟩ hK hN hP hD hS hA (fun r_82 _ H locs hw_82 hP hD hS => ?_)
      have hw_82 : r_82 = y_S a0 (sF (sF t 2 r_1) 3 1) := hw_82
      refine va_put (D := (dC, dI)) (ci := 9) (v := .long r_82) (ty := .long) (C := "StabilitySumsModel") (T := TB_M) (N := 33) hx hb hts ui_M tt_M tk_M nm_M hown hK hP hD hS 0 rfl rfl 31 (by decide) (hts _ uw_727) (fun _ h9 => h9) rfl (by decide +kernel) rfl rfl (Nat.le_of_ble_eq_true rfl) de_M_reckon_32 (fun H locs hP hD hS => ?_)
      have hP : va_P (dC, dI) CLS (wM ad T (sF (sF (sF t 2 r_1) 3 1) 2 r_82)) H := hP
      have hD : va_D A (wM ad T (sF (sF (sF t 2 r_1) 3 1) 2 r_82)) := hD
      refine lv_aload_n hx hb de_M_reckon_35 rfl (lv_at hl 1 rfl) ?_
      refine lv_lload_n hx hb de_M_reckon_36 rfl (lv_at hl 0 rfl) ?_
      refine va_put (D := (dC, dI)) (ci := 9) (v := .long r_1) (ty := .long) (C := "StabilitySumsModel") (T := TB_M) (N := 33) hx hb hts ui_M tt_M tk_M nm_M hown hK hP hD hS 0 rfl rfl 32 (by decide) (hts _ uw_728) (fun _ h9 => h9) rfl (by decide +kernel) rfl rfl (Nat.le_of_ble_eq_true rfl) de_M_reckon_37 (fun H locs hP hD hS => ?_)
      have hP : va_P (dC, dI) CLS (wM ad T (sF (sF (sF (sF t 2 r_1) 3 1) 2 r_82) 3 r_1)) H := hP
      have hD : va_D A (wM ad T (sF (sF (sF (sF t 2 r_1) 3 1) 2 r_82) 3 r_1)) := hD
      refine lv_goto (tgt := 175) hx hb de_M_reckon_40 (by decide) ?_
      refine lv_aload_n hx hb de_M_reckon_175 rfl (lv_at hl 1 rfl) ?_
      refine va_get (D := (dC, dI)) (ci := 9) (v := .long r_1) (C := "StabilitySumsModel") (T := TB_M) (N := 33) hx hb hts ui_M hown hK hP 0 rfl rfl 32 (by decide) (hts _ uw_728) (fun _ h9 => h9) rfl de_M_reckon_176 ?_
      refine lv_lconst (v := 0) hx hb de_M_reckon_179 (by decide) ?_
      refine rw_ge (tgt := 202) hx hb de_M_reckon_180 de_M_reckon_181 (by decide) (fun c_83 => ?_) (fun c_83 => ?_)
      · skip
        have hfin : (sF (sF (sF (sF t 2 r_1) 3 1) 2 r_82) 3 r_1) = y_rk a0 t := by
          have hU9 : y_U0 a0 t = r_82 := by rw [y_U0, if_neg c_2, if_neg c_42]; first | done | (subst_vars; rfl)
          have hD9 : y_D0 a0 t = r_1 := by rw [y_D0, if_neg c_2, if_neg c_42]; first | done | (subst_vars; rfl)
          have hU8 : y_U a0 t = r_82 := by rw [y_U, hD9, hU9, if_pos c_83]; first | done | (subst_vars; rfl)
          have hD8 : y_D a0 t = r_1 := by rw [y_D, hD9, if_pos c_83]; first | done | (subst_vars; rfl)
          unfold y_rk; rw [hU8, hD8]; first | done | (simp only [sF_idem, sF_c32]; done) | (subst_vars; unfold y_tb; simp only [sF_idem, sF_c32]; done) | (subst_vars; unfold y_tb; simp only [sF_idem, sF_c32]; rfl)
        rw [hfin] at hP hD
        subst hQ
        exact W.vret hx hb hr (fun t9 ht hW => ⟨⟨(), rfl, trivial, by rw [ht]; exact hP, va_K.moved hW.alike hK, hD⟩, hS.F ht⟩) hS.2.2 de_M_reckon_202
      · skip
        refine lv_aload_n hx hb de_M_reckon_184 rfl (lv_at hl 1 rfl) ?_
        refine lv_aload_n hx hb de_M_reckon_185 rfl (lv_at hl 1 rfl) ?_
        refine va_get (D := (dC, dI)) (ci := 9) (v := .long r_82) (C := "StabilitySumsModel") (T := TB_M) (N := 33) hx hb hts ui_M hown hK hP 0 rfl rfl 31 (by decide) (hts _ uw_727) (fun _ h9 => h9) rfl de_M_reckon_186 ?_
        refine lv_lneg hx hb de_M_reckon_189 ?_
        refine lv_topl (fun v_84 ev_84 => ?_)
        have ev_84 : v_84 = -r_82 := ev_84
        refine va_put (D := (dC, dI)) (ci := 9) (v := .long v_84) (ty := .long) (C := "StabilitySumsModel") (T := TB_M) (N := 33) hx hb hts ui_M tt_M tk_M nm_M hown hK hP hD hS 0 rfl rfl 31 (by decide) (hts _ uw_727) (fun _ h9 => h9) rfl (by decide +kernel) rfl rfl (Nat.le_of_ble_eq_true rfl) de_M_reckon_190 (fun H locs hP hD hS => ?_)
        have hP : va_P (dC, dI) CLS (wM ad T (sF (sF (sF (sF (sF t 2 r_1) 3 1) 2 r_82) 3 r_1) 2 v_84)) H := hP
        have hD : va_D A (wM ad T (sF (sF (sF (sF (sF t 2 r_1) 3 1) 2 r_82) 3 r_1) 2 v_84)) := hD
        refine lv_aload_n hx hb de_M_reckon_193 rfl (lv_at hl 1 rfl) ?_
        refine lv_aload_n hx hb de_M_reckon_194 rfl (lv_at hl 1 rfl) ?_
        refine va_get (D := (dC, dI)) (ci := 9) (v := .long r_1) (C := "StabilitySumsModel") (T := TB_M) (N := 33) hx hb hts ui_M hown hK hP 0 rfl rfl 32 (by decide) (hts _ uw_728) (fun _ h9 => h9) rfl de_M_reckon_195 ?_
        refine lv_lneg hx hb de_M_reckon_198 ?_
        refine lv_topl (fun v_85 ev_85 => ?_)
        have ev_85 : v_85 = -r_1 := ev_85
        refine va_put (D := (dC, dI)) (ci := 9) (v := .long v_85) (ty := .long) (C := "StabilitySumsModel") (T := TB_M) (N := 33) hx hb hts ui_M tt_M tk_M nm_M hown hK hP hD hS 0 rfl rfl 32 (by decide) (hts _ uw_728) (fun _ h9 => h9) rfl (by decide +kernel) rfl rfl (Nat.le_of_ble_eq_true rfl) de_M_reckon_199 (fun H locs hP hD hS => ?_)
        have hP : va_P (dC, dI) CLS (wM ad T (sF (sF (sF (sF (sF (sF t 2 r_1) 3 1) 2 r_82) 3 r_1) 2 v_84) 3 v_85)) H := hP
        have hD : va_D A (wM ad T (sF (sF (sF (sF (sF (sF t 2 r_1) 3 1) 2 r_82) 3 r_1) 2 v_84) 3 v_85)) := hD
        have hfin : (sF (sF (sF (sF (sF (sF t 2 r_1) 3 1) 2 r_82) 3 r_1) 2 v_84) 3 v_85) = y_rk a0 t := by
          have hU9 : y_U0 a0 t = r_82 := by rw [y_U0, if_neg c_2, if_neg c_42]; first | done | (subst_vars; rfl)
          have hD9 : y_D0 a0 t = r_1 := by rw [y_D0, if_neg c_2, if_neg c_42]; first | done | (subst_vars; rfl)
          have hU8 : y_U a0 t = v_84 := by rw [y_U, hD9, hU9, if_neg c_83]; first | done | (subst_vars; rfl)
          have hD8 : y_D a0 t = v_85 := by rw [y_D, hD9, if_neg c_83]; first | done | (subst_vars; rfl)
          unfold y_rk; rw [hU8, hD8]; first | done | (simp only [sF_idem, sF_c32]; done) | (subst_vars; unfold y_tb; simp only [sF_idem, sF_c32]; done) | (subst_vars; unfold y_tb; simp only [sF_idem, sF_c32]; rfl)
        rw [hfin] at hP hD
        subst hQ
        exact W.vret hx hb hr (fun t9 ht hW => ⟨⟨(), rfl, trivial, by rw [ht]; exact hP, va_K.moved hW.alike hK, hD⟩, hS.F ht⟩) hS.2.2 de_M_reckon_202
