set_option maxHeartbeats 4000000 in
set_option maxRecDepth 100000 in
theorem mt_M_shearAt (l : Launch) (dC : Nat → ClassId) (dI : Nat → Nat → Nat) (ad : Nat → Nat) (T : Nat → ClassId) (t : St) (a0 : Int64) (hI : IvM t) (hz : HZ t) (sz : Nat) : Met l yn_M_shearAt (.code yn_M_shearAt cd_M_shearAt 7 (some .long) :: UW) ({ frames := 1, cells := 0, slots := 0, locals := 25 } : Room) (va_Pc [.ref (ad 0), .long a0] (Pw (dC, dI) CLS (TY T) (wM ad T t) sz)) (va_Ql (fun (r : Int64) (_ : Unit) => r = y_shear a0 t) (Bw (dC, dI) CLS (TY T) (fun _ : Unit => (wM ad T t)) (va_A (wM ad T t) sz)) (va_A (wM ad T t) sz)) 0 0 (va_A (wM ad T t) sz) := by
  refine Met.ofW (cc := cd_M_shearAt) (maxL := 7) (ret := (some .long)) (by decide) rfl ?_
  intro p e s m args below meth c s₁ B hml hv
  obtain ⟨rfl, hsz, hP, hK, hD0, hN⟩ := hv
  have hx := B.exec
  have hb := B.bytes
  have hr := B.returns
  have hts : ∀ w ∈ UW, w.before _ s = true := fun w h => atoms_spec (ws := .code yn_M_shearAt cd_M_shearAt 7 (some .long) :: UW) B.pre w (List.mem_cons_of_mem _ h)
  have hown : s.vm.findClass "StabilitySumsModel" = some m.cls := findClass_of_methodNamed B.named
  have hlocks := B.notSynchronized
  subst hsz
  have hD := hD0.self (sz := s.heap.size)
  generalize hAe : va_A (wM ad T t) s.heap.size = A at hD ⊢
  have hA : ∀ q : Nat, s.heap.size ≤ q → A q := fun q h => by rw [← hAe]; exact Or.inr h
  have hS : va_S A s.heap s.heap [] := va_S.rf
  have hl := lv_entry ([.ref (ad 0), .long a0]) (n := 7) (Nat.le_of_ble_eq_true rfl)
  rw [lg_entry_eq]
  generalize (lg_sl ([.ref (ad 0), .long a0]) ++ List.replicate (7 - (lg_sl ([.ref (ad 0), .long a0])).length) Slot.unset).toArray = ls at hl ⊢
  have hl : lv_has ls 7 [(0, .ref (ad 0)), (1, .long a0)] := hl
  generalize hQ : MQ below _ _ s 0 0 A = Q
  obtain ⟨hI1, hI2, hI3, hI4, hI5⟩ := hI
  refine lv_lconst (v := 0) hx hb de_M_shearAt_0 (by decide) ?_
  refine lv_lstore_n (lv' := [(3, .long 0), (0, .ref (ad 0)), (1, .long a0)]) hx hb de_M_shearAt_1 rfl hl (by decide) rfl (fun ls hl => ?_)
  refine lv_iconst (v := 0) hx hb de_M_shearAt_2 (by decide) ?_
  refine lv_istore (lv' := [(5, .int 0), (3, .long 0), (0, .ref (ad 0)), (1, .long a0)]) hx hb de_M_shearAt_3 hl (by decide) rfl (fun ls hl => ?_)
  have loop_5 : ∀ (n : Nat) (i : Nat) (a : Int64), (i + n = t.2.2.2 1) → (y_aw a0 t.1 n i a = y_aw a0 t.1 (t.2.2.2 1) 0 0) → ∀ (H : Heap) (locs : List Loc) (ls : Array Slot), va_P (dC, dI) CLS (wM ad T t) H → va_D A (wM ad T t) → va_S A s.heap H locs → lv_has ls 7 [(0, .ref (ad 0)), (1, .long a0), (3, .long a), (5, .int (nI i))] → W p l e (headSpec (.code yn_M_shearAt cd_M_shearAt 7 (some .long) :: UW) ({ frames := 1, cells := 0, slots := 0, locals := 25 } : Room)).room s m ([.ref (ad 0), .long a0] : List Value).toArray below meth c H locs 0 0 Q (F0 m 5 ls []) := by
    intro n
    induction n with
    | zero =>
      intro i a hi hq H locs ls hP hD hS hl
      refine lv_iload hx hb de_M_shearAt_5 (lv_at hl 3 rfl) ?_
      refine lv_aload_n hx hb de_M_shearAt_7 rfl (lv_at hl 0 rfl) ?_
      refine va_get (D := (dC, dI)) (ci := 9) (v := .int (nI (t.2.2.2 1))) (C := "StabilitySumsModel") (T := TB_M) (N := 33) hx hb hts ui_M hown hK hP 0 rfl rfl 1 (by decide) (hts _ uw_697) (fun _ h9 => h9) rfl de_M_shearAt_8 ?_
      refine lv_icmp_ge (tgt := 46) hx hb de_M_shearAt_11 (by decide) (fun c_1 => ?_) (fun c_1 => ?_)
      · skip
        have c_1 : (t.2.2.2 1) ≤ i := (nI_leI (a := t.2.2.2 1) (b := i) (by omega) (by omega)).mp c_1
        refine lv_iconst (v := 0) hx hb de_M_shearAt_46 (by decide) ?_
        refine lv_istore (lv' := [(5, .int 0), (0, .ref (ad 0)), (1, .long a0), (3, .long a)]) hx hb de_M_shearAt_47 hl (by decide) rfl (fun ls hl => ?_)
        have loop_49 : ∀ (n : Nat) (i : Nat) (b : Int64), (i + n = t.2.2.2 2) → (y_at a0 t.1 n i b = y_kg a0 t) → ∀ (H : Heap) (locs : List Loc) (ls : Array Slot), va_P (dC, dI) CLS (wM ad T t) H → va_D A (wM ad T t) → va_S A s.heap H locs → lv_has ls 7 [(0, .ref (ad 0)), (1, .long a0), (3, .long b), (5, .int (nI i))] → W p l e (headSpec (.code yn_M_shearAt cd_M_shearAt 7 (some .long) :: UW) ({ frames := 1, cells := 0, slots := 0, locals := 25 } : Room)).room s m ([.ref (ad 0), .long a0] : List Value).toArray below meth c H locs 0 0 Q (F0 m 49 ls []) := by
          intro n
          induction n with
          | zero =>
            intro i b hi2 hq2 H locs ls hP hD hS hl
            refine lv_iload hx hb de_M_shearAt_49 (lv_at hl 3 rfl) ?_
            refine lv_aload_n hx hb de_M_shearAt_51 rfl (lv_at hl 0 rfl) ?_
            refine va_get (D := (dC, dI)) (ci := 9) (v := .int (nI (t.2.2.2 2))) (C := "StabilitySumsModel") (T := TB_M) (N := 33) hx hb hts ui_M hown hK hP 0 rfl rfl 6 (by decide) (hts _ uw_702) (fun _ h9 => h9) rfl de_M_shearAt_52 ?_
            refine lv_icmp_ge (tgt := 90) hx hb de_M_shearAt_55 (by decide) (fun c_2 => ?_) (fun c_2 => ?_)
            · skip
              have c_2 : (t.2.2.2 2) ≤ i := (nI_leI (a := t.2.2.2 2) (b := i) (by omega) (by omega)).mp c_2
              refine lv_lload_n hx hb de_M_shearAt_90 rfl (lv_at hl 1 rfl) ?_
              refine lv_aload_n hx hb de_M_shearAt_91 rfl (lv_at hl 0 rfl) ?_
              refine va_get (D := (dC, dI)) (ci := 9) (v := .long (t.2.2.1 0)) (C := "StabilitySumsModel") (T := TB_M) (N := 33) hx hb hts ui_M hown hK hP 0 rfl rfl 20 (by decide) (hts _ uw_716) (fun _ h9 => h9) rfl de_M_shearAt_92 ?_
              refine rw_ge (tgt := 103) hx hb de_M_shearAt_95 de_M_shearAt_96 (by decide) (fun c_3 => ?_) (fun c_3 => ?_)
              · skip
                refine lv_lload_n hx hb de_M_shearAt_103 rfl (lv_at hl 1 rfl) ?_
                refine lv_aload_n hx hb de_M_shearAt_104 rfl (lv_at hl 0 rfl) ?_
                refine va_get (D := (dC, dI)) (ci := 9) (v := .long (t.2.2.1 1)) (C := "StabilitySumsModel") (T := TB_M) (N := 33) hx hb hts ui_M hown hK hP 0 rfl rfl 21 (by decide) (hts _ uw_717) (fun _ h9 => h9) rfl de_M_shearAt_105 ?_
                refine rw_le (tgt := 124) hx hb de_M_shearAt_108 de_M_shearAt_109 (by decide) (fun c_4 => ?_) (fun c_4 => ?_)
                · skip
                  refine lv_lload_n hx hb de_M_shearAt_124 rfl (lv_at hl 1 rfl) ?_
                  refine lv_aload_n hx hb de_M_shearAt_125 rfl (lv_at hl 0 rfl) ?_
                  refine va_get (D := (dC, dI)) (ci := 9) (v := .long (t.2.2.1 0)) (C := "StabilitySumsModel") (T := TB_M) (N := 33) hx hb hts ui_M hown hK hP 0 rfl rfl 20 (by decide) (hts _ uw_716) (fun _ h9 => h9) rfl de_M_shearAt_126 ?_
                  refine lv_lsub hx hb de_M_shearAt_129 ?_
                  refine lv_topl (fun v_5 ev_5 => ?_)
                  have ev_5 : v_5 = a0 - (t.2.2.1 0) := ev_5
                  refine lv_lstore (lv' := [(5, .long v_5), (0, .ref (ad 0)), (1, .long a0), (3, .long b)]) hx hb de_M_shearAt_130 hl (by decide) rfl (fun ls hl => ?_)
                  refine lv_lload_n hx hb de_M_shearAt_132 rfl (lv_at hl 3 rfl) ?_
                  refine lv_aload_n hx hb de_M_shearAt_133 rfl (lv_at hl 1 rfl) ?_
                  refine va_get (D := (dC, dI)) (ci := 9) (v := .long (t.2.2.1 1)) (C := "StabilitySumsModel") (T := TB_M) (N := 33) hx hb hts ui_M hown hK hP 0 rfl rfl 21 (by decide) (hts _ uw_717) (fun _ h9 => h9) rfl de_M_shearAt_134 ?_
                  refine lv_aload_n hx hb de_M_shearAt_137 rfl (lv_at hl 1 rfl) ?_
                  refine va_get (D := (dC, dI)) (ci := 9) (v := .long (t.2.2.1 0)) (C := "StabilitySumsModel") (T := TB_M) (N := 33) hx hb hts ui_M hown hK hP 0 rfl rfl 20 (by decide) (hts _ uw_716) (fun _ h9 => h9) rfl de_M_shearAt_138 ?_
                  refine lv_lsub hx hb de_M_shearAt_141 ?_
                  refine lv_topl (fun v_6 ev_6 => ?_)
                  have ev_6 : v_6 = (t.2.2.1 1) - (t.2.2.1 0) := ev_6
                  refine lv_lmul hx hb de_M_shearAt_142 ?_
                  refine lv_topl (fun v_7 ev_7 => ?_)
                  have ev_7 : v_7 = b * v_6 := ev_7
                  refine lv_aload_n hx hb de_M_shearAt_143 rfl (lv_at hl 1 rfl) ?_
                  refine lv_iconst (v := 0) hx hb de_M_shearAt_144 (by decide) ?_
                  refine cl_Vl (As := [.int 0]) (rest := [.long v_7]) ⟨hx, hb, hml, hown, hts⟩ (mt_M_sum l dC dI ad T t 0 (show IvM t from (by refine ⟨?_, ?_, ?_, ?_, ?_⟩ <;> omega))) (cwV 1 hts (uw_V uw_811 uw_813 uw_14 uw_36 uw_814) rfl rfl rfl (by decide +kernel) ⟨Nat.le_of_ble_eq_true rfl, Nat.le_of_ble_eq_true rfl⟩) (va_recv hK hP (ci := 9) (q0 := 0) rfl rfl) rfl hl.1 rfl (Nat.le_of_ble_eq_true rfl) de_M_shearAt_145 ⟨Nat.zero_le _, Nat.zero_le _⟩ hK hN hP hD hS hA (fun r_8 _ H locs hw_8 hP hD hS => ?_)
                  have hw_8 : r_8 = y_S 0 t := hw_8
                  refine lv_lload hx hb de_M_shearAt_148 (lv_at hl 0 rfl) ?_
                  refine lv_lmul hx hb de_M_shearAt_150 ?_
                  refine lv_topl (fun v_9 ev_9 => ?_)
                  have ev_9 : v_9 = r_8 * v_5 := ev_9
                  refine lv_lsub hx hb de_M_shearAt_151 ?_
                  refine lv_topl (fun v_10 ev_10 => ?_)
                  have ev_10 : v_10 = v_7 - v_9 := ev_10
                  refine lv_aload_n hx hb de_M_shearAt_152 rfl (lv_at hl 1 rfl) ?_
                  refine va_get (D := (dC, dI)) (ci := 9) (v := .long (t.2.2.1 1)) (C := "StabilitySumsModel") (T := TB_M) (N := 33) hx hb hts ui_M hown hK hP 0 rfl rfl 21 (by decide) (hts _ uw_717) (fun _ h9 => h9) rfl de_M_shearAt_153 ?_
                  refine lv_aload_n hx hb de_M_shearAt_156 rfl (lv_at hl 1 rfl) ?_
                  refine va_get (D := (dC, dI)) (ci := 9) (v := .long (t.2.2.1 0)) (C := "StabilitySumsModel") (T := TB_M) (N := 33) hx hb hts ui_M hown hK hP 0 rfl rfl 20 (by decide) (hts _ uw_716) (fun _ h9 => h9) rfl de_M_shearAt_157 ?_
                  refine lv_lsub hx hb de_M_shearAt_160 ?_
                  refine lv_topl (fun v_11 ev_11 => ?_)
                  have ev_11 : v_11 = (t.2.2.1 1) - (t.2.2.1 0) := ev_11
                  refine cl_Sl (As := [.long v_10, .long v_11]) (rest := []) ⟨hx, hb, hml, hown, hts⟩ (mt_M_floor l dC dI ad T t v_10 v_11 (by rw [ev_11]; exact hz.1)) (va_cwS 2 hts (uw_S uw_831 uw_832 uw_36 uw_833) rfl rfl rfl (by decide +kernel) ⟨Nat.le_of_ble_eq_true rfl, Nat.le_of_ble_eq_true rfl⟩) rfl hl.1 rfl (Nat.le_of_ble_eq_true rfl) de_M_shearAt_161 ⟨Nat.zero_le _, Nat.zero_le _⟩ hK hN hP hD hS hA (fun r_12 _ H locs hw_12 hP hD hS => ?_)
                  have hw_12 : r_12 = y_fl v_10 v_11 := hw_12
                  subst hQ
                  have hpost : (r_12 : Int64) = y_shear a0 t := by
                    have hb9 : b = y_kg a0 t := hq2
                    unfold y_shear; rw [if_pos c_3, if_pos c_4, ← hb9]
                    subst_vars; rfl
                  exact W.lret (v := r_12) hx hb hr (fun t9 ht hW => ⟨⟨r_12, (), rfl, hpost, by rw [ht]; exact hP, va_K.moved hW.alike hK, hD⟩, hS.F ht⟩) hS.2.2 de_M_shearAt_164
                · skip
                  refine lv_aload_n hx hb de_M_shearAt_112 rfl (lv_at hl 0 rfl) ?_
                  refine va_get (D := (dC, dI)) (ci := 9) (v := .long (t.2.2.1 1)) (C := "StabilitySumsModel") (T := TB_M) (N := 33) hx hb hts ui_M hown hK hP 0 rfl rfl 21 (by decide) (hts _ uw_717) (fun _ h9 => h9) rfl de_M_shearAt_113 ?_
                  refine lv_aload_n hx hb de_M_shearAt_116 rfl (lv_at hl 0 rfl) ?_
                  refine va_get (D := (dC, dI)) (ci := 9) (v := .long (t.2.2.1 0)) (C := "StabilitySumsModel") (T := TB_M) (N := 33) hx hb hts ui_M hown hK hP 0 rfl rfl 20 (by decide) (hts _ uw_716) (fun _ h9 => h9) rfl de_M_shearAt_117 ?_
                  refine lv_lsub hx hb de_M_shearAt_120 ?_
                  refine lv_topl (fun v_13 ev_13 => ?_)
                  have ev_13 : v_13 = (t.2.2.1 1) - (t.2.2.1 0) := ev_13
                  refine lv_goto (tgt := 130) hx hb de_M_shearAt_121 (by decide) ?_
                  refine lv_lstore (lv' := [(5, .long v_13), (0, .ref (ad 0)), (1, .long a0), (3, .long b)]) hx hb de_M_shearAt_130 hl (by decide) rfl (fun ls hl => ?_)
                  refine lv_lload_n hx hb de_M_shearAt_132 rfl (lv_at hl 3 rfl) ?_
                  refine lv_aload_n hx hb de_M_shearAt_133 rfl (lv_at hl 1 rfl) ?_
                  refine va_get (D := (dC, dI)) (ci := 9) (v := .long (t.2.2.1 1)) (C := "StabilitySumsModel") (T := TB_M) (N := 33) hx hb hts ui_M hown hK hP 0 rfl rfl 21 (by decide) (hts _ uw_717) (fun _ h9 => h9) rfl de_M_shearAt_134 ?_
                  refine lv_aload_n hx hb de_M_shearAt_137 rfl (lv_at hl 1 rfl) ?_
                  refine va_get (D := (dC, dI)) (ci := 9) (v := .long (t.2.2.1 0)) (C := "StabilitySumsModel") (T := TB_M) (N := 33) hx hb hts ui_M hown hK hP 0 rfl rfl 20 (by decide) (hts _ uw_716) (fun _ h9 => h9) rfl de_M_shearAt_138 ?_
                  refine lv_lsub hx hb de_M_shearAt_141 ?_
                  refine lv_topl (fun v_14 ev_14 => ?_)
                  have ev_14 : v_14 = (t.2.2.1 1) - (t.2.2.1 0) := ev_14
                  refine lv_lmul hx hb de_M_shearAt_142 ?_
                  refine lv_topl (fun v_15 ev_15 => ?_)
                  have ev_15 : v_15 = b * v_14 := ev_15
                  refine lv_aload_n hx hb de_M_shearAt_143 rfl (lv_at hl 1 rfl) ?_
                  refine lv_iconst (v := 0) hx hb de_M_shearAt_144 (by decide) ?_
                  refine cl_Vl (As := [.int 0]) (rest := [.long v_15]) ⟨hx, hb, hml, hown, hts⟩ (mt_M_sum l dC dI ad T t 0 (show IvM t from (by refine ⟨?_, ?_, ?_, ?_, ?_⟩ <;> omega))) (cwV 1 hts (uw_V uw_811 uw_813 uw_14 uw_36 uw_814) rfl rfl rfl (by decide +kernel) ⟨Nat.le_of_ble_eq_true rfl, Nat.le_of_ble_eq_true rfl⟩) (va_recv hK hP (ci := 9) (q0 := 0) rfl rfl) rfl hl.1 rfl (Nat.le_of_ble_eq_true rfl) de_M_shearAt_145 ⟨Nat.zero_le _, Nat.zero_le _⟩ hK hN hP hD hS hA (fun r_16 _ H locs hw_16 hP hD hS => ?_)
                  have hw_16 : r_16 = y_S 0 t := hw_16
                  refine lv_lload hx hb de_M_shearAt_148 (lv_at hl 0 rfl) ?_
                  refine lv_lmul hx hb de_M_shearAt_150 ?_
                  refine lv_topl (fun v_17 ev_17 => ?_)
                  have ev_17 : v_17 = r_16 * v_13 := ev_17
                  refine lv_lsub hx hb de_M_shearAt_151 ?_
                  refine lv_topl (fun v_18 ev_18 => ?_)
                  have ev_18 : v_18 = v_15 - v_17 := ev_18
                  refine lv_aload_n hx hb de_M_shearAt_152 rfl (lv_at hl 1 rfl) ?_
                  refine va_get (D := (dC, dI)) (ci := 9) (v := .long (t.2.2.1 1)) (C := "StabilitySumsModel") (T := TB_M) (N := 33) hx hb hts ui_M hown hK hP 0 rfl rfl 21 (by decide) (hts _ uw_717) (fun _ h9 => h9) rfl de_M_shearAt_153 ?_
                  refine lv_aload_n hx hb de_M_shearAt_156 rfl (lv_at hl 1 rfl) ?_
                  refine va_get (D := (dC, dI)) (ci := 9) (v := .long (t.2.2.1 0)) (C := "StabilitySumsModel") (T := TB_M) (N := 33) hx hb hts ui_M hown hK hP 0 rfl rfl 20 (by decide) (hts _ uw_716) (fun _ h9 => h9) rfl de_M_shearAt_157 ?_
                  refine lv_lsub hx hb de_M_shearAt_160 ?_
                  refine lv_topl (fun v_19 ev_19 => ?_)
                  have ev_19 : v_19 = (t.2.2.1 1) - (t.2.2.1 0) := ev_19
                  refine cl_Sl (As := [.long v_18, .long v_19]) (rest := []) ⟨hx, hb, hml, hown, hts⟩ (mt_M_floor l dC dI ad T t v_18 v_19 (by rw [ev_19]; exact hz.1)) (va_cwS 2 hts (uw_S uw_831 uw_832 uw_36 uw_833) rfl rfl rfl (by decide +kernel) ⟨Nat.le_of_ble_eq_true rfl, Nat.le_of_ble_eq_true rfl⟩) rfl hl.1 rfl (Nat.le_of_ble_eq_true rfl) de_M_shearAt_161 ⟨Nat.zero_le _, Nat.zero_le _⟩ hK hN hP hD hS hA (fun r_20 _ H locs hw_20 hP hD hS => ?_)
                  have hw_20 : r_20 = y_fl v_18 v_19 := hw_20
                  subst hQ
                  have hpost : (r_20 : Int64) = y_shear a0 t := by
                    have hb9 : b = y_kg a0 t := hq2
                    unfold y_shear; rw [if_pos c_3, if_neg c_4, ← hb9]
                    subst_vars; rfl
                  exact W.lret (v := r_20) hx hb hr (fun t9 ht hW => ⟨⟨r_20, (), rfl, hpost, by rw [ht]; exact hP, va_K.moved hW.alike hK, hD⟩, hS.F ht⟩) hS.2.2 de_M_shearAt_164
              · skip
                refine lv_lconst (v := 0) hx hb de_M_shearAt_99 (by decide) ?_
                refine lv_goto (tgt := 130) hx hb de_M_shearAt_100 (by decide) ?_
                refine lv_lstore (lv' := [(5, .long 0), (0, .ref (ad 0)), (1, .long a0), (3, .long b)]) hx hb de_M_shearAt_130 hl (by decide) rfl (fun ls hl => ?_)
                refine lv_lload_n hx hb de_M_shearAt_132 rfl (lv_at hl 3 rfl) ?_
                refine lv_aload_n hx hb de_M_shearAt_133 rfl (lv_at hl 1 rfl) ?_
                refine va_get (D := (dC, dI)) (ci := 9) (v := .long (t.2.2.1 1)) (C := "StabilitySumsModel") (T := TB_M) (N := 33) hx hb hts ui_M hown hK hP 0 rfl rfl 21 (by decide) (hts _ uw_717) (fun _ h9 => h9) rfl de_M_shearAt_134 ?_
                refine lv_aload_n hx hb de_M_shearAt_137 rfl (lv_at hl 1 rfl) ?_
                refine va_get (D := (dC, dI)) (ci := 9) (v := .long (t.2.2.1 0)) (C := "StabilitySumsModel") (T := TB_M) (N := 33) hx hb hts ui_M hown hK hP 0 rfl rfl 20 (by decide) (hts _ uw_716) (fun _ h9 => h9) rfl de_M_shearAt_138 ?_
                refine lv_lsub hx hb de_M_shearAt_141 ?_
                refine lv_topl (fun v_21 ev_21 => ?_)
                have ev_21 : v_21 = (t.2.2.1 1) - (t.2.2.1 0) := ev_21
                refine lv_lmul hx hb de_M_shearAt_142 ?_
                refine lv_topl (fun v_22 ev_22 => ?_)
                have ev_22 : v_22 = b * v_21 := ev_22
                refine lv_aload_n hx hb de_M_shearAt_143 rfl (lv_at hl 1 rfl) ?_
                refine lv_iconst (v := 0) hx hb de_M_shearAt_144 (by decide) ?_
                refine cl_Vl (As := [.int 0]) (rest := [.long v_22]) ⟨hx, hb, hml, hown, hts⟩ (mt_M_sum l dC dI ad T t 0 (show IvM t from (by refine ⟨?_, ?_, ?_, ?_, ?_⟩ <;> omega))) (cwV 1 hts (uw_V uw_811 uw_813 uw_14 uw_36 uw_814) rfl rfl rfl (by decide +kernel) ⟨Nat.le_of_ble_eq_true rfl, Nat.le_of_ble_eq_true rfl⟩) (va_recv hK hP (ci := 9) (q0 := 0) rfl rfl) rfl hl.1 rfl (Nat.le_of_ble_eq_true rfl) de_M_shearAt_145 ⟨Nat.zero_le _, Nat.zero_le _⟩ hK hN hP hD hS hA (fun r_23 _ H locs hw_23 hP hD hS => ?_)
                have hw_23 : r_23 = y_S 0 t := hw_23
                refine lv_lload hx hb de_M_shearAt_148 (lv_at hl 0 rfl) ?_
                refine lv_lmul hx hb de_M_shearAt_150 ?_
                refine lv_topl (fun v_24 ev_24 => ?_)
                have ev_24 : v_24 = r_23 * 0 := ev_24
                refine lv_lsub hx hb de_M_shearAt_151 ?_
                refine lv_topl (fun v_25 ev_25 => ?_)
                have ev_25 : v_25 = v_22 - v_24 := ev_25
                refine lv_aload_n hx hb de_M_shearAt_152 rfl (lv_at hl 1 rfl) ?_
                refine va_get (D := (dC, dI)) (ci := 9) (v := .long (t.2.2.1 1)) (C := "StabilitySumsModel") (T := TB_M) (N := 33) hx hb hts ui_M hown hK hP 0 rfl rfl 21 (by decide) (hts _ uw_717) (fun _ h9 => h9) rfl de_M_shearAt_153 ?_
                refine lv_aload_n hx hb de_M_shearAt_156 rfl (lv_at hl 1 rfl) ?_
                refine va_get (D := (dC, dI)) (ci := 9) (v := .long (t.2.2.1 0)) (C := "StabilitySumsModel") (T := TB_M) (N := 33) hx hb hts ui_M hown hK hP 0 rfl rfl 20 (by decide) (hts _ uw_716) (fun _ h9 => h9) rfl de_M_shearAt_157 ?_
                refine lv_lsub hx hb de_M_shearAt_160 ?_
                refine lv_topl (fun v_26 ev_26 => ?_)
                have ev_26 : v_26 = (t.2.2.1 1) - (t.2.2.1 0) := ev_26
                refine cl_Sl (As := [.long v_25, .long v_26]) (rest := []) ⟨hx, hb, hml, hown, hts⟩ (mt_M_floor l dC dI ad T t v_25 v_26 (by rw [ev_26]; exact hz.1)) (va_cwS 2 hts (uw_S uw_831 uw_832 uw_36 uw_833) rfl rfl rfl (by decide +kernel) ⟨Nat.le_of_ble_eq_true rfl, Nat.le_of_ble_eq_true rfl⟩) rfl hl.1 rfl (Nat.le_of_ble_eq_true rfl) de_M_shearAt_161 ⟨Nat.zero_le _, Nat.zero_le _⟩ hK hN hP hD hS hA (fun r_27 _ H locs hw_27 hP hD hS => ?_)
                have hw_27 : r_27 = y_fl v_25 v_26 := hw_27
                subst hQ
                have hpost : (r_27 : Int64) = y_shear a0 t := by
                  have hb9 : b = y_kg a0 t := hq2
                  unfold y_shear; rw [if_neg c_3, ← hb9]
                  subst_vars; rfl
                exact W.lret (v := r_27) hx hb hr (fun t9 ht hW => ⟨⟨r_27, (), rfl, hpost, by rw [ht]; exact hP, va_K.moved hW.alike hK, hD⟩, hS.F ht⟩) hS.2.2 de_M_shearAt_164
            · skip
              have c_2 : ¬ ((t.2.2.2 2) ≤ i) := fun z => c_2 ((nI_leI (a := t.2.2.2 2) (b := i) (by omega) (by omega)).mpr z)
              exfalso; omega
          | succ n ih =>
            intro i b hi2 hq2 H locs ls hP hD hS hl
            refine lv_iload hx hb de_M_shearAt_49 (lv_at hl 3 rfl) ?_
            refine lv_aload_n hx hb de_M_shearAt_51 rfl (lv_at hl 0 rfl) ?_
            refine va_get (D := (dC, dI)) (ci := 9) (v := .int (nI (t.2.2.2 2))) (C := "StabilitySumsModel") (T := TB_M) (N := 33) hx hb hts ui_M hown hK hP 0 rfl rfl 6 (by decide) (hts _ uw_702) (fun _ h9 => h9) rfl de_M_shearAt_52 ?_
            refine lv_icmp_ge (tgt := 90) hx hb de_M_shearAt_55 (by decide) (fun c_28 => ?_) (fun c_28 => ?_)
            · skip
              have c_28 : (t.2.2.2 2) ≤ i := (nI_leI (a := t.2.2.2 2) (b := i) (by omega) (by omega)).mp c_28
              exfalso; omega
            · skip
              have c_28 : ¬ ((t.2.2.2 2) ≤ i) := fun z => c_28 ((nI_leI (a := t.2.2.2 2) (b := i) (by omega) (by omega)).mpr z)
              refine lv_lload_n hx hb de_M_shearAt_58 rfl (lv_at hl 2 rfl) ?_
              refine lv_aload_n hx hb de_M_shearAt_59 rfl (lv_at hl 0 rfl) ?_
              refine va_get (D := (dC, dI)) (ci := 9) (v := .ref (ad 7)) (C := "StabilitySumsModel") (T := TB_M) (N := 33) hx hb hts ui_M hown hK hP 0 rfl rfl 9 (by decide) (hts _ uw_705) (fun _ h9 => h9) rfl de_M_shearAt_60 ?_
              refine lv_iload hx hb de_M_shearAt_63 (lv_at hl 3 rfl) ?_
              refine rw_lald (f := t.1 6) (j := i) hx hb hK hP 7 0 rfl rfl (by omega) (by decide) de_M_shearAt_65 ?_
              refine lv_lload_n hx hb de_M_shearAt_66 rfl (lv_at hl 1 rfl) ?_
              refine rw_ge (tgt := 81) hx hb de_M_shearAt_67 de_M_shearAt_68 (by decide) (fun c_29 => ?_) (fun c_29 => ?_)
              · skip
                refine lv_lconst (v := 0) hx hb de_M_shearAt_81 (by decide) ?_
                refine lv_ladd hx hb de_M_shearAt_82 ?_
                refine lv_topl (fun v_30 ev_30 => ?_)
                have ev_30 : v_30 = b + 0 := ev_30
                refine lv_lstore_n (lv' := [(3, .long v_30), (0, .ref (ad 0)), (1, .long a0), (5, .int (nI i))]) hx hb de_M_shearAt_83 rfl hl (by decide) rfl (fun ls hl => ?_)
                refine lv_iinc (v := (nI (i + 1))) (lv' := [(5, .int (nI (i + 1))), (3, .long v_30), (0, .ref (ad 0)), (1, .long a0)]) hx hb de_M_shearAt_84 hl (k := 3) rfl (nI_1 i) (by decide) rfl (fun ls hl => ?_)
                refine lv_goto (tgt := 49) hx hb de_M_shearAt_87 (by decide) ?_
                exact ih (i + 1) v_30 (by omega) (by rw [← hq2, y_at, ev_30, if_pos c_29]) H locs ls hP hD hS (lv_sub hl [2, 3, 1, 0] rfl)
              · skip
                refine lv_aload_n hx hb de_M_shearAt_71 rfl (lv_at hl 0 rfl) ?_
                refine va_get (D := (dC, dI)) (ci := 9) (v := .ref (ad 12)) (C := "StabilitySumsModel") (T := TB_M) (N := 33) hx hb hts ui_M hown hK hP 0 rfl rfl 14 (by decide) (hts _ uw_710) (fun _ h9 => h9) rfl de_M_shearAt_72 ?_
                refine lv_iload hx hb de_M_shearAt_75 (lv_at hl 3 rfl) ?_
                refine rw_lald (f := t.1 11) (j := i) hx hb hK hP 12 0 rfl rfl (by omega) (by decide) de_M_shearAt_77 ?_
                refine lv_goto (tgt := 82) hx hb de_M_shearAt_78 (by decide) ?_
                refine lv_ladd hx hb de_M_shearAt_82 ?_
                refine lv_topl (fun v_31 ev_31 => ?_)
                have ev_31 : v_31 = b + (t.1 11 i) := ev_31
                refine lv_lstore_n (lv' := [(3, .long v_31), (0, .ref (ad 0)), (1, .long a0), (5, .int (nI i))]) hx hb de_M_shearAt_83 rfl hl (by decide) rfl (fun ls hl => ?_)
                refine lv_iinc (v := (nI (i + 1))) (lv' := [(5, .int (nI (i + 1))), (3, .long v_31), (0, .ref (ad 0)), (1, .long a0)]) hx hb de_M_shearAt_84 hl (k := 3) rfl (nI_1 i) (by decide) rfl (fun ls hl => ?_)
                refine lv_goto (tgt := 49) hx hb de_M_shearAt_87 (by decide) ?_
                exact ih (i + 1) v_31 (by omega) (by rw [← hq2, y_at, ev_31, if_neg c_29]) H locs ls hP hD hS (lv_sub hl [2, 3, 1, 0] rfl)
        exact loop_49 (t.2.2.2 2) 0 a (by omega) (by have h1 : a = _ := hq; rw [h1]) _ _ ls hP hD hS (lv_sub hl [1, 2, 3, 0] rfl)
      · skip
        have c_1 : ¬ ((t.2.2.2 1) ≤ i) := fun z => c_1 ((nI_leI (a := t.2.2.2 1) (b := i) (by omega) (by omega)).mpr z)
        exfalso; omega
    | succ n ih =>
      intro i a hi hq H locs ls hP hD hS hl
      refine lv_iload hx hb de_M_shearAt_5 (lv_at hl 3 rfl) ?_
      refine lv_aload_n hx hb de_M_shearAt_7 rfl (lv_at hl 0 rfl) ?_
      refine va_get (D := (dC, dI)) (ci := 9) (v := .int (nI (t.2.2.2 1))) (C := "StabilitySumsModel") (T := TB_M) (N := 33) hx hb hts ui_M hown hK hP 0 rfl rfl 1 (by decide) (hts _ uw_697) (fun _ h9 => h9) rfl de_M_shearAt_8 ?_
      refine lv_icmp_ge (tgt := 46) hx hb de_M_shearAt_11 (by decide) (fun c_32 => ?_) (fun c_32 => ?_)
      · skip
        have c_32 : (t.2.2.2 1) ≤ i := (nI_leI (a := t.2.2.2 1) (b := i) (by omega) (by omega)).mp c_32
        exfalso; omega
      · skip
        have c_32 : ¬ ((t.2.2.2 1) ≤ i) := fun z => c_32 ((nI_leI (a := t.2.2.2 1) (b := i) (by omega) (by omega)).mpr z)
        refine lv_lload_n hx hb de_M_shearAt_14 rfl (lv_at hl 2 rfl) ?_
        refine lv_aload_n hx hb de_M_shearAt_15 rfl (lv_at hl 0 rfl) ?_
        refine va_get (D := (dC, dI)) (ci := 9) (v := .ref (ad 2)) (C := "StabilitySumsModel") (T := TB_M) (N := 33) hx hb hts ui_M hown hK hP 0 rfl rfl 3 (by decide) (hts _ uw_699) (fun _ h9 => h9) rfl de_M_shearAt_16 ?_
        refine lv_iload hx hb de_M_shearAt_19 (lv_at hl 3 rfl) ?_
        refine rw_lald (f := t.1 1) (j := i) hx hb hK hP 2 0 rfl rfl (by omega) (by decide) de_M_shearAt_21 ?_
        refine lv_lload_n hx hb de_M_shearAt_22 rfl (lv_at hl 1 rfl) ?_
        refine rw_ge (tgt := 37) hx hb de_M_shearAt_23 de_M_shearAt_24 (by decide) (fun c_33 => ?_) (fun c_33 => ?_)
        · skip
          refine lv_lconst (v := 0) hx hb de_M_shearAt_37 (by decide) ?_
          refine lv_ladd hx hb de_M_shearAt_38 ?_
          refine lv_topl (fun v_34 ev_34 => ?_)
          have ev_34 : v_34 = a + 0 := ev_34
          refine lv_lstore_n (lv' := [(3, .long v_34), (0, .ref (ad 0)), (1, .long a0), (5, .int (nI i))]) hx hb de_M_shearAt_39 rfl hl (by decide) rfl (fun ls hl => ?_)
          refine lv_iinc (v := (nI (i + 1))) (lv' := [(5, .int (nI (i + 1))), (3, .long v_34), (0, .ref (ad 0)), (1, .long a0)]) hx hb de_M_shearAt_40 hl (k := 3) rfl (nI_1 i) (by decide) rfl (fun ls hl => ?_)
          refine lv_goto (tgt := 5) hx hb de_M_shearAt_43 (by decide) ?_
          exact ih (i + 1) v_34 (by omega) (by rw [← hq, y_aw, ev_34, if_pos c_33]) H locs ls hP hD hS (lv_sub hl [2, 3, 1, 0] rfl)
        · skip
          refine lv_aload_n hx hb de_M_shearAt_27 rfl (lv_at hl 0 rfl) ?_
          refine va_get (D := (dC, dI)) (ci := 9) (v := .ref (ad 11)) (C := "StabilitySumsModel") (T := TB_M) (N := 33) hx hb hts ui_M hown hK hP 0 rfl rfl 13 (by decide) (hts _ uw_709) (fun _ h9 => h9) rfl de_M_shearAt_28 ?_
          refine lv_iload hx hb de_M_shearAt_31 (lv_at hl 3 rfl) ?_
          refine rw_lald (f := t.1 10) (j := i) hx hb hK hP 11 0 rfl rfl (by omega) (by decide) de_M_shearAt_33 ?_
          refine lv_goto (tgt := 38) hx hb de_M_shearAt_34 (by decide) ?_
          refine lv_ladd hx hb de_M_shearAt_38 ?_
          refine lv_topl (fun v_35 ev_35 => ?_)
          have ev_35 : v_35 = a + (t.1 10 i) := ev_35
          refine lv_lstore_n (lv' := [(3, .long v_35), (0, .ref (ad 0)), (1, .long a0), (5, .int (nI i))]) hx hb de_M_shearAt_39 rfl hl (by decide) rfl (fun ls hl => ?_)
          refine lv_iinc (v := (nI (i + 1))) (lv' := [(5, .int (nI (i + 1))), (3, .long v_35), (0, .ref (ad 0)), (1, .long a0)]) hx hb de_M_shearAt_40 hl (k := 3) rfl (nI_1 i) (by decide) rfl (fun ls hl => ?_)
          refine lv_goto (tgt := 5) hx hb de_M_shearAt_43 (by decide) ?_
          exact ih (i + 1) v_35 (by omega) (by rw [← hq, y_aw, ev_35, if_neg c_33]) H locs ls hP hD hS (lv_sub hl [2, 3, 1, 0] rfl)
  exact loop_5 (t.2.2.2 1) 0 0 (by omega) rfl _ _ ls hP hD hS (lv_sub hl [2, 3, 1, 0] rfl)
set_option maxHeartbeats 4000000 in
set_option maxRecDepth 100000 in
theorem mt_M_bendingAt (l : Launch) (dC : Nat → ClassId) (dI : Nat → Nat → Nat) (ad : Nat → Nat) (T : Nat → ClassId) (t : St) (a0 : Int64) (hI : IvM t) (hz : HZ t) (sz : Nat) : Met l yn_M_bendingAt (.code yn_M_bendingAt cd_M_bendingAt 7 (some .long) :: UW) ({ frames := 1, cells := 0, slots := 0, locals := 25 } : Room) (va_Pc [.ref (ad 0), .long a0] (Pw (dC, dI) CLS (TY T) (wM ad T t) sz)) (va_Ql (fun (r : Int64) (_ : Unit) => r = y_bend a0 t) (Bw (dC, dI) CLS (TY T) (fun _ : Unit => (wM ad T t)) (va_A (wM ad T t) sz)) (va_A (wM ad T t) sz)) 0 0 (va_A (wM ad T t) sz) := by
  refine Met.ofW (cc := cd_M_bendingAt) (maxL := 7) (ret := (some .long)) (by decide) rfl ?_
  intro p e s m args below meth c s₁ B hml hv
  obtain ⟨rfl, hsz, hP, hK, hD0, hN⟩ := hv
  have hx := B.exec
  have hb := B.bytes
  have hr := B.returns
  have hts : ∀ w ∈ UW, w.before _ s = true := fun w h => atoms_spec (ws := .code yn_M_bendingAt cd_M_bendingAt 7 (some .long) :: UW) B.pre w (List.mem_cons_of_mem _ h)
  have hown : s.vm.findClass "StabilitySumsModel" = some m.cls := findClass_of_methodNamed B.named
  have hlocks := B.notSynchronized
  subst hsz
  have hD := hD0.self (sz := s.heap.size)
  generalize hAe : va_A (wM ad T t) s.heap.size = A at hD ⊢
  have hA : ∀ q : Nat, s.heap.size ≤ q → A q := fun q h => by rw [← hAe]; exact Or.inr h
  have hS : va_S A s.heap s.heap [] := va_S.rf
  have hl := lv_entry ([.ref (ad 0), .long a0]) (n := 7) (Nat.le_of_ble_eq_true rfl)
  rw [lg_entry_eq]
  generalize (lg_sl ([.ref (ad 0), .long a0]) ++ List.replicate (7 - (lg_sl ([.ref (ad 0), .long a0])).length) Slot.unset).toArray = ls at hl ⊢
  have hl : lv_has ls 7 [(0, .ref (ad 0)), (1, .long a0)] := hl
  generalize hQ : MQ below _ _ s 0 0 A = Q
  obtain ⟨hI1, hI2, hI3, hI4, hI5⟩ := hI
  refine lv_lconst (v := 0) hx hb de_M_bendingAt_0 (by decide) ?_
  refine lv_lstore_n (lv' := [(3, .long 0), (0, .ref (ad 0)), (1, .long a0)]) hx hb de_M_bendingAt_1 rfl hl (by decide) rfl (fun ls hl => ?_)
  refine lv_iconst (v := 0) hx hb de_M_bendingAt_2 (by decide) ?_
  refine lv_istore (lv' := [(5, .int 0), (3, .long 0), (0, .ref (ad 0)), (1, .long a0)]) hx hb de_M_bendingAt_3 hl (by decide) rfl (fun ls hl => ?_)
  have loop_5 : ∀ (n : Nat) (i : Nat) (a : Int64), (i + n = t.2.2.2 1) → (y_mw a0 t.1 n i a = y_mw a0 t.1 (t.2.2.2 1) 0 0) → ∀ (H : Heap) (locs : List Loc) (ls : Array Slot), va_P (dC, dI) CLS (wM ad T t) H → va_D A (wM ad T t) → va_S A s.heap H locs → lv_has ls 7 [(0, .ref (ad 0)), (1, .long a0), (3, .long a), (5, .int (nI i))] → W p l e (headSpec (.code yn_M_bendingAt cd_M_bendingAt 7 (some .long) :: UW) ({ frames := 1, cells := 0, slots := 0, locals := 25 } : Room)).room s m ([.ref (ad 0), .long a0] : List Value).toArray below meth c H locs 0 0 Q (F0 m 5 ls []) := by
    intro n
    induction n with
    | zero =>
      intro i a hi hq H locs ls hP hD hS hl
      refine lv_iload hx hb de_M_bendingAt_5 (lv_at hl 3 rfl) ?_
      refine lv_aload_n hx hb de_M_bendingAt_7 rfl (lv_at hl 0 rfl) ?_
      refine va_get (D := (dC, dI)) (ci := 9) (v := .int (nI (t.2.2.2 1))) (C := "StabilitySumsModel") (T := TB_M) (N := 33) hx hb hts ui_M hown hK hP 0 rfl rfl 1 (by decide) (hts _ uw_697) (fun _ h9 => h9) rfl de_M_bendingAt_8 ?_
      refine lv_icmp_ge (tgt := 56) hx hb de_M_bendingAt_11 (by decide) (fun c_1 => ?_) (fun c_1 => ?_)
      · skip
        have c_1 : (t.2.2.2 1) ≤ i := (nI_leI (a := t.2.2.2 1) (b := i) (by omega) (by omega)).mp c_1
        refine lv_iconst (v := 0) hx hb de_M_bendingAt_56 (by decide) ?_
        refine lv_istore (lv' := [(5, .int 0), (0, .ref (ad 0)), (1, .long a0), (3, .long a)]) hx hb de_M_bendingAt_57 hl (by decide) rfl (fun ls hl => ?_)
        have loop_59 : ∀ (n : Nat) (i : Nat) (b : Int64), (i + n = t.2.2.2 2) → (y_mt a0 t.1 n i b = y_tn a0 t) → ∀ (H : Heap) (locs : List Loc) (ls : Array Slot), va_P (dC, dI) CLS (wM ad T t) H → va_D A (wM ad T t) → va_S A s.heap H locs → lv_has ls 7 [(0, .ref (ad 0)), (1, .long a0), (3, .long b), (5, .int (nI i))] → W p l e (headSpec (.code yn_M_bendingAt cd_M_bendingAt 7 (some .long) :: UW) ({ frames := 1, cells := 0, slots := 0, locals := 25 } : Room)).room s m ([.ref (ad 0), .long a0] : List Value).toArray below meth c H locs 0 0 Q (F0 m 59 ls []) := by
          intro n
          induction n with
          | zero =>
            intro i b hi2 hq2 H locs ls hP hD hS hl
            refine lv_iload hx hb de_M_bendingAt_59 (lv_at hl 3 rfl) ?_
            refine lv_aload_n hx hb de_M_bendingAt_61 rfl (lv_at hl 0 rfl) ?_
            refine va_get (D := (dC, dI)) (ci := 9) (v := .int (nI (t.2.2.2 2))) (C := "StabilitySumsModel") (T := TB_M) (N := 33) hx hb hts ui_M hown hK hP 0 rfl rfl 6 (by decide) (hts _ uw_702) (fun _ h9 => h9) rfl de_M_bendingAt_62 ?_
            refine lv_icmp_ge (tgt := 110) hx hb de_M_bendingAt_65 (by decide) (fun c_2 => ?_) (fun c_2 => ?_)
            · skip
              have c_2 : (t.2.2.2 2) ≤ i := (nI_leI (a := t.2.2.2 2) (b := i) (by omega) (by omega)).mp c_2
              refine lv_aload_n hx hb de_M_bendingAt_110 rfl (lv_at hl 0 rfl) ?_
              refine lv_iconst (v := 0) hx hb de_M_bendingAt_111 (by decide) ?_
              refine cl_Vl (As := [.int 0]) (rest := []) ⟨hx, hb, hml, hown, hts⟩ (mt_M_sum l dC dI ad T t 0 (show IvM t from (by refine ⟨?_, ?_, ?_, ?_, ?_⟩ <;> omega))) (cwV 1 hts (uw_V uw_811 uw_813 uw_14 uw_36 uw_814) rfl rfl rfl (by decide +kernel) ⟨Nat.le_of_ble_eq_true rfl, Nat.le_of_ble_eq_true rfl⟩) (va_recv hK hP (ci := 9) (q0 := 0) rfl rfl) rfl hl.1 rfl (Nat.le_of_ble_eq_true rfl) de_M_bendingAt_112 ⟨Nat.zero_le _, Nat.zero_le _⟩ hK hN hP hD hS hA (fun r_3 _ H locs hw_3 hP hD hS => ?_)
              have hw_3 : r_3 = y_S 0 t := hw_3
              refine lv_lstore (lv' := [(5, .long r_3), (0, .ref (ad 0)), (1, .long a0), (3, .long b)]) hx hb de_M_bendingAt_115 hl (by decide) rfl (fun ls hl => ?_)
              refine lv_lload_n hx hb de_M_bendingAt_117 rfl (lv_at hl 2 rfl) ?_
              refine lv_aload_n hx hb de_M_bendingAt_118 rfl (lv_at hl 1 rfl) ?_
              refine va_get (D := (dC, dI)) (ci := 9) (v := .long (t.2.2.1 0)) (C := "StabilitySumsModel") (T := TB_M) (N := 33) hx hb hts ui_M hown hK hP 0 rfl rfl 20 (by decide) (hts _ uw_716) (fun _ h9 => h9) rfl de_M_bendingAt_119 ?_
              refine rw_gt (tgt := 128) hx hb de_M_bendingAt_122 de_M_bendingAt_123 (by decide) (fun c_4 => ?_) (fun c_4 => ?_)
              · skip
                refine lv_lload_n hx hb de_M_bendingAt_128 rfl (lv_at hl 2 rfl) ?_
                refine lv_aload_n hx hb de_M_bendingAt_129 rfl (lv_at hl 1 rfl) ?_
                refine va_get (D := (dC, dI)) (ci := 9) (v := .long (t.2.2.1 1)) (C := "StabilitySumsModel") (T := TB_M) (N := 33) hx hb hts ui_M hown hK hP 0 rfl rfl 21 (by decide) (hts _ uw_717) (fun _ h9 => h9) rfl de_M_bendingAt_130 ?_
                refine rw_le (tgt := 168) hx hb de_M_bendingAt_133 de_M_bendingAt_134 (by decide) (fun c_5 => ?_) (fun c_5 => ?_)
                · skip
                  refine lv_ldc2 (v := 2) hx hb hown (hts _ uw_827) de_M_bendingAt_168 ?_
                  refine lv_lload_n hx hb de_M_bendingAt_171 rfl (lv_at hl 3 rfl) ?_
                  refine lv_lmul hx hb de_M_bendingAt_172 ?_
                  refine lv_topl (fun v_6 ev_6 => ?_)
                  have ev_6 : v_6 = 2 * b := ev_6
                  refine lv_aload_n hx hb de_M_bendingAt_173 rfl (lv_at hl 1 rfl) ?_
                  refine va_get (D := (dC, dI)) (ci := 9) (v := .long (t.2.2.1 1)) (C := "StabilitySumsModel") (T := TB_M) (N := 33) hx hb hts ui_M hown hK hP 0 rfl rfl 21 (by decide) (hts _ uw_717) (fun _ h9 => h9) rfl de_M_bendingAt_174 ?_
                  refine lv_aload_n hx hb de_M_bendingAt_177 rfl (lv_at hl 1 rfl) ?_
                  refine va_get (D := (dC, dI)) (ci := 9) (v := .long (t.2.2.1 0)) (C := "StabilitySumsModel") (T := TB_M) (N := 33) hx hb hts ui_M hown hK hP 0 rfl rfl 20 (by decide) (hts _ uw_716) (fun _ h9 => h9) rfl de_M_bendingAt_178 ?_
                  refine lv_lsub hx hb de_M_bendingAt_181 ?_
                  refine lv_topl (fun v_7 ev_7 => ?_)
                  have ev_7 : v_7 = (t.2.2.1 1) - (t.2.2.1 0) := ev_7
                  refine lv_lmul hx hb de_M_bendingAt_182 ?_
                  refine lv_topl (fun v_8 ev_8 => ?_)
                  have ev_8 : v_8 = v_6 * v_7 := ev_8
                  refine lv_lload hx hb de_M_bendingAt_183 (lv_at hl 0 rfl) ?_
                  refine lv_lload_n hx hb de_M_bendingAt_185 rfl (lv_at hl 2 rfl) ?_
                  refine lv_aload_n hx hb de_M_bendingAt_186 rfl (lv_at hl 1 rfl) ?_
                  refine va_get (D := (dC, dI)) (ci := 9) (v := .long (t.2.2.1 0)) (C := "StabilitySumsModel") (T := TB_M) (N := 33) hx hb hts ui_M hown hK hP 0 rfl rfl 20 (by decide) (hts _ uw_716) (fun _ h9 => h9) rfl de_M_bendingAt_187 ?_
                  refine lv_lsub hx hb de_M_bendingAt_190 ?_
                  refine lv_topl (fun v_9 ev_9 => ?_)
                  have ev_9 : v_9 = a0 - (t.2.2.1 0) := ev_9
                  refine lv_lmul hx hb de_M_bendingAt_191 ?_
                  refine lv_topl (fun v_10 ev_10 => ?_)
                  have ev_10 : v_10 = r_3 * v_9 := ev_10
                  refine lv_lload_n hx hb de_M_bendingAt_192 rfl (lv_at hl 2 rfl) ?_
                  refine lv_aload_n hx hb de_M_bendingAt_193 rfl (lv_at hl 1 rfl) ?_
                  refine va_get (D := (dC, dI)) (ci := 9) (v := .long (t.2.2.1 0)) (C := "StabilitySumsModel") (T := TB_M) (N := 33) hx hb hts ui_M hown hK hP 0 rfl rfl 20 (by decide) (hts _ uw_716) (fun _ h9 => h9) rfl de_M_bendingAt_194 ?_
                  refine lv_lsub hx hb de_M_bendingAt_197 ?_
                  refine lv_topl (fun v_11 ev_11 => ?_)
                  have ev_11 : v_11 = a0 - (t.2.2.1 0) := ev_11
                  refine lv_lmul hx hb de_M_bendingAt_198 ?_
                  refine lv_topl (fun v_12 ev_12 => ?_)
                  have ev_12 : v_12 = v_10 * v_11 := ev_12
                  refine lv_lsub hx hb de_M_bendingAt_199 ?_
                  refine lv_topl (fun v_13 ev_13 => ?_)
                  have ev_13 : v_13 = v_8 - v_12 := ev_13
                  refine lv_ldc2 (v := 2) hx hb hown (hts _ uw_827) de_M_bendingAt_200 ?_
                  refine lv_aload_n hx hb de_M_bendingAt_203 rfl (lv_at hl 1 rfl) ?_
                  refine va_get (D := (dC, dI)) (ci := 9) (v := .long (t.2.2.1 1)) (C := "StabilitySumsModel") (T := TB_M) (N := 33) hx hb hts ui_M hown hK hP 0 rfl rfl 21 (by decide) (hts _ uw_717) (fun _ h9 => h9) rfl de_M_bendingAt_204 ?_
                  refine lv_aload_n hx hb de_M_bendingAt_207 rfl (lv_at hl 1 rfl) ?_
                  refine va_get (D := (dC, dI)) (ci := 9) (v := .long (t.2.2.1 0)) (C := "StabilitySumsModel") (T := TB_M) (N := 33) hx hb hts ui_M hown hK hP 0 rfl rfl 20 (by decide) (hts _ uw_716) (fun _ h9 => h9) rfl de_M_bendingAt_208 ?_
                  refine lv_lsub hx hb de_M_bendingAt_211 ?_
                  refine lv_topl (fun v_14 ev_14 => ?_)
                  have ev_14 : v_14 = (t.2.2.1 1) - (t.2.2.1 0) := ev_14
                  refine lv_lmul hx hb de_M_bendingAt_212 ?_
                  refine lv_topl (fun v_15 ev_15 => ?_)
                  have ev_15 : v_15 = 2 * v_14 := ev_15
                  refine cl_Sl (As := [.long v_13, .long v_15]) (rest := []) ⟨hx, hb, hml, hown, hts⟩ (mt_M_floor l dC dI ad T t v_13 v_15 (by rw [ev_15, ev_14]; exact hz.2.1)) (va_cwS 2 hts (uw_S uw_831 uw_832 uw_36 uw_833) rfl rfl rfl (by decide +kernel) ⟨Nat.le_of_ble_eq_true rfl, Nat.le_of_ble_eq_true rfl⟩) rfl hl.1 rfl (Nat.le_of_ble_eq_true rfl) de_M_bendingAt_213 ⟨Nat.zero_le _, Nat.zero_le _⟩ hK hN hP hD hS hA (fun r_16 _ H locs hw_16 hP hD hS => ?_)
                  have hw_16 : r_16 = y_fl v_13 v_15 := hw_16
                  subst hQ
                  have hpost : (r_16 : Int64) = y_bend a0 t := by
                    have hb9 : b = y_tn a0 t := hq2
                    unfold y_bend; rw [if_neg (Int64.not_le.mpr c_4), if_pos c_5]
                    rw [← hb9]; first | done | (subst_vars; rfl)
                  exact W.lret (v := r_16) hx hb hr (fun t9 ht hW => ⟨⟨r_16, (), rfl, hpost, by rw [ht]; exact hP, va_K.moved hW.alike hK, hD⟩, hS.F ht⟩) hS.2.2 de_M_bendingAt_216
                · skip
                  refine lv_ldc2 (v := 2) hx hb hown (hts _ uw_827) de_M_bendingAt_137 ?_
                  refine lv_lload_n hx hb de_M_bendingAt_140 rfl (lv_at hl 3 rfl) ?_
                  refine lv_lmul hx hb de_M_bendingAt_141 ?_
                  refine lv_topl (fun v_17 ev_17 => ?_)
                  have ev_17 : v_17 = 2 * b := ev_17
                  refine lv_lload hx hb de_M_bendingAt_142 (lv_at hl 0 rfl) ?_
                  refine lv_ldc2 (v := 2) hx hb hown (hts _ uw_827) de_M_bendingAt_144 ?_
                  refine lv_lload_n hx hb de_M_bendingAt_147 rfl (lv_at hl 2 rfl) ?_
                  refine lv_lmul hx hb de_M_bendingAt_148 ?_
                  refine lv_topl (fun v_18 ev_18 => ?_)
                  have ev_18 : v_18 = 2 * a0 := ev_18
                  refine lv_aload_n hx hb de_M_bendingAt_149 rfl (lv_at hl 1 rfl) ?_
                  refine va_get (D := (dC, dI)) (ci := 9) (v := .long (t.2.2.1 0)) (C := "StabilitySumsModel") (T := TB_M) (N := 33) hx hb hts ui_M hown hK hP 0 rfl rfl 20 (by decide) (hts _ uw_716) (fun _ h9 => h9) rfl de_M_bendingAt_150 ?_
                  refine lv_lsub hx hb de_M_bendingAt_153 ?_
                  refine lv_topl (fun v_19 ev_19 => ?_)
                  have ev_19 : v_19 = v_18 - (t.2.2.1 0) := ev_19
                  refine lv_aload_n hx hb de_M_bendingAt_154 rfl (lv_at hl 1 rfl) ?_
                  refine va_get (D := (dC, dI)) (ci := 9) (v := .long (t.2.2.1 1)) (C := "StabilitySumsModel") (T := TB_M) (N := 33) hx hb hts ui_M hown hK hP 0 rfl rfl 21 (by decide) (hts _ uw_717) (fun _ h9 => h9) rfl de_M_bendingAt_155 ?_
                  refine lv_lsub hx hb de_M_bendingAt_158 ?_
                  refine lv_topl (fun v_20 ev_20 => ?_)
                  have ev_20 : v_20 = v_19 - (t.2.2.1 1) := ev_20
                  refine lv_lmul hx hb de_M_bendingAt_159 ?_
                  refine lv_topl (fun v_21 ev_21 => ?_)
                  have ev_21 : v_21 = r_3 * v_20 := ev_21
                  refine lv_lsub hx hb de_M_bendingAt_160 ?_
                  refine lv_topl (fun v_22 ev_22 => ?_)
                  have ev_22 : v_22 = v_17 - v_21 := ev_22
                  refine lv_ldc2 (v := 2) hx hb hown (hts _ uw_827) de_M_bendingAt_161 ?_
                  refine cl_Sl (As := [.long v_22, .long 2]) (rest := []) ⟨hx, hb, hml, hown, hts⟩ (mt_M_floor l dC dI ad T t v_22 2 (by decide)) (va_cwS 2 hts (uw_S uw_831 uw_832 uw_36 uw_833) rfl rfl rfl (by decide +kernel) ⟨Nat.le_of_ble_eq_true rfl, Nat.le_of_ble_eq_true rfl⟩) rfl hl.1 rfl (Nat.le_of_ble_eq_true rfl) de_M_bendingAt_164 ⟨Nat.zero_le _, Nat.zero_le _⟩ hK hN hP hD hS hA (fun r_23 _ H locs hw_23 hP hD hS => ?_)
                  have hw_23 : r_23 = y_fl v_22 2 := hw_23
                  subst hQ
                  have hpost : (r_23 : Int64) = y_bend a0 t := by
                    have hb9 : b = y_tn a0 t := hq2
                    unfold y_bend; rw [if_neg (Int64.not_le.mpr c_4), if_neg c_5]
                    rw [← hb9]; first | done | (subst_vars; rfl)
                  exact W.lret (v := r_23) hx hb hr (fun t9 ht hW => ⟨⟨r_23, (), rfl, hpost, by rw [ht]; exact hP, va_K.moved hW.alike hK, hD⟩, hS.F ht⟩) hS.2.2 de_M_bendingAt_167
              · skip
                refine lv_lload_n hx hb de_M_bendingAt_126 rfl (lv_at hl 3 rfl) ?_
                subst hQ
                have hpost : (b : Int64) = y_bend a0 t := by
                  have hb9 : b = y_tn a0 t := hq2
                  unfold y_bend; rw [if_pos (Int64.not_lt.mp c_4)]
                  rw [← hb9]; first | done | (subst_vars; rfl)
                exact W.lret (v := b) hx hb hr (fun t9 ht hW => ⟨⟨b, (), rfl, hpost, by rw [ht]; exact hP, va_K.moved hW.alike hK, hD⟩, hS.F ht⟩) hS.2.2 de_M_bendingAt_127
            · skip
              have c_2 : ¬ ((t.2.2.2 2) ≤ i) := fun z => c_2 ((nI_leI (a := t.2.2.2 2) (b := i) (by omega) (by omega)).mpr z)
              exfalso; omega
          | succ n ih =>
            intro i b hi2 hq2 H locs ls hP hD hS hl
            refine lv_iload hx hb de_M_bendingAt_59 (lv_at hl 3 rfl) ?_
            refine lv_aload_n hx hb de_M_bendingAt_61 rfl (lv_at hl 0 rfl) ?_
            refine va_get (D := (dC, dI)) (ci := 9) (v := .int (nI (t.2.2.2 2))) (C := "StabilitySumsModel") (T := TB_M) (N := 33) hx hb hts ui_M hown hK hP 0 rfl rfl 6 (by decide) (hts _ uw_702) (fun _ h9 => h9) rfl de_M_bendingAt_62 ?_
            refine lv_icmp_ge (tgt := 110) hx hb de_M_bendingAt_65 (by decide) (fun c_24 => ?_) (fun c_24 => ?_)
            · skip
              have c_24 : (t.2.2.2 2) ≤ i := (nI_leI (a := t.2.2.2 2) (b := i) (by omega) (by omega)).mp c_24
              exfalso; omega
            · skip
              have c_24 : ¬ ((t.2.2.2 2) ≤ i) := fun z => c_24 ((nI_leI (a := t.2.2.2 2) (b := i) (by omega) (by omega)).mpr z)
              refine lv_lload_n hx hb de_M_bendingAt_68 rfl (lv_at hl 2 rfl) ?_
              refine lv_aload_n hx hb de_M_bendingAt_69 rfl (lv_at hl 0 rfl) ?_
              refine va_get (D := (dC, dI)) (ci := 9) (v := .ref (ad 7)) (C := "StabilitySumsModel") (T := TB_M) (N := 33) hx hb hts ui_M hown hK hP 0 rfl rfl 9 (by decide) (hts _ uw_705) (fun _ h9 => h9) rfl de_M_bendingAt_70 ?_
              refine lv_iload hx hb de_M_bendingAt_73 (lv_at hl 3 rfl) ?_
              refine rw_lald (f := t.1 6) (j := i) hx hb hK hP 7 0 rfl rfl (by omega) (by decide) de_M_bendingAt_75 ?_
              refine lv_lload_n hx hb de_M_bendingAt_76 rfl (lv_at hl 1 rfl) ?_
              refine rw_ge (tgt := 101) hx hb de_M_bendingAt_77 de_M_bendingAt_78 (by decide) (fun c_25 => ?_) (fun c_25 => ?_)
              · skip
                refine lv_lconst (v := 0) hx hb de_M_bendingAt_101 (by decide) ?_
                refine lv_ladd hx hb de_M_bendingAt_102 ?_
                refine lv_topl (fun v_26 ev_26 => ?_)
                have ev_26 : v_26 = b + 0 := ev_26
                refine lv_lstore_n (lv' := [(3, .long v_26), (0, .ref (ad 0)), (1, .long a0), (5, .int (nI i))]) hx hb de_M_bendingAt_103 rfl hl (by decide) rfl (fun ls hl => ?_)
                refine lv_iinc (v := (nI (i + 1))) (lv' := [(5, .int (nI (i + 1))), (3, .long v_26), (0, .ref (ad 0)), (1, .long a0)]) hx hb de_M_bendingAt_104 hl (k := 3) rfl (nI_1 i) (by decide) rfl (fun ls hl => ?_)
                refine lv_goto (tgt := 59) hx hb de_M_bendingAt_107 (by decide) ?_
                exact ih (i + 1) v_26 (by omega) (by rw [← hq2, y_mt, ev_26, if_pos c_25]) H locs ls hP hD hS (lv_sub hl [2, 3, 1, 0] rfl)
              · skip
                refine lv_aload_n hx hb de_M_bendingAt_81 rfl (lv_at hl 0 rfl) ?_
                refine va_get (D := (dC, dI)) (ci := 9) (v := .ref (ad 12)) (C := "StabilitySumsModel") (T := TB_M) (N := 33) hx hb hts ui_M hown hK hP 0 rfl rfl 14 (by decide) (hts _ uw_710) (fun _ h9 => h9) rfl de_M_bendingAt_82 ?_
                refine lv_iload hx hb de_M_bendingAt_85 (lv_at hl 3 rfl) ?_
                refine rw_lald (f := t.1 11) (j := i) hx hb hK hP 12 0 rfl rfl (by omega) (by decide) de_M_bendingAt_87 ?_
                refine lv_lload_n hx hb de_M_bendingAt_88 rfl (lv_at hl 1 rfl) ?_
                refine lv_aload_n hx hb de_M_bendingAt_89 rfl (lv_at hl 0 rfl) ?_
                refine va_get (D := (dC, dI)) (ci := 9) (v := .ref (ad 7)) (C := "StabilitySumsModel") (T := TB_M) (N := 33) hx hb hts ui_M hown hK hP 0 rfl rfl 9 (by decide) (hts _ uw_705) (fun _ h9 => h9) rfl de_M_bendingAt_90 ?_
                refine lv_iload hx hb de_M_bendingAt_93 (lv_at hl 3 rfl) ?_
                refine rw_lald (f := t.1 6) (j := i) hx hb hK hP 7 0 rfl rfl (by omega) (by decide) de_M_bendingAt_95 ?_
                refine lv_lsub hx hb de_M_bendingAt_96 ?_
                refine lv_topl (fun v_27 ev_27 => ?_)
                have ev_27 : v_27 = a0 - (t.1 6 i) := ev_27
                refine lv_lmul hx hb de_M_bendingAt_97 ?_
                refine lv_topl (fun v_28 ev_28 => ?_)
                have ev_28 : v_28 = (t.1 11 i) * v_27 := ev_28
                refine lv_goto (tgt := 102) hx hb de_M_bendingAt_98 (by decide) ?_
                refine lv_ladd hx hb de_M_bendingAt_102 ?_
                refine lv_topl (fun v_29 ev_29 => ?_)
                have ev_29 : v_29 = b + v_28 := ev_29
                refine lv_lstore_n (lv' := [(3, .long v_29), (0, .ref (ad 0)), (1, .long a0), (5, .int (nI i))]) hx hb de_M_bendingAt_103 rfl hl (by decide) rfl (fun ls hl => ?_)
                refine lv_iinc (v := (nI (i + 1))) (lv' := [(5, .int (nI (i + 1))), (3, .long v_29), (0, .ref (ad 0)), (1, .long a0)]) hx hb de_M_bendingAt_104 hl (k := 3) rfl (nI_1 i) (by decide) rfl (fun ls hl => ?_)
                refine lv_goto (tgt := 59) hx hb de_M_bendingAt_107 (by decide) ?_
                exact ih (i + 1) v_29 (by omega) (by rw [← hq2, y_mt, ev_29, ev_28, ev_27, if_neg c_25]) H locs ls hP hD hS (lv_sub hl [2, 3, 1, 0] rfl)
        exact loop_59 (t.2.2.2 2) 0 a (by omega) (by have h1 : a = _ := hq; rw [h1]) _ _ ls hP hD hS (lv_sub hl [1, 2, 3, 0] rfl)
      · skip
        have c_1 : ¬ ((t.2.2.2 1) ≤ i) := fun z => c_1 ((nI_leI (a := t.2.2.2 1) (b := i) (by omega) (by omega)).mpr z)
        exfalso; omega
    | succ n ih =>
      intro i a hi hq H locs ls hP hD hS hl
      refine lv_iload hx hb de_M_bendingAt_5 (lv_at hl 3 rfl) ?_
      refine lv_aload_n hx hb de_M_bendingAt_7 rfl (lv_at hl 0 rfl) ?_
      refine va_get (D := (dC, dI)) (ci := 9) (v := .int (nI (t.2.2.2 1))) (C := "StabilitySumsModel") (T := TB_M) (N := 33) hx hb hts ui_M hown hK hP 0 rfl rfl 1 (by decide) (hts _ uw_697) (fun _ h9 => h9) rfl de_M_bendingAt_8 ?_
      refine lv_icmp_ge (tgt := 56) hx hb de_M_bendingAt_11 (by decide) (fun c_30 => ?_) (fun c_30 => ?_)
      · skip
        have c_30 : (t.2.2.2 1) ≤ i := (nI_leI (a := t.2.2.2 1) (b := i) (by omega) (by omega)).mp c_30
        exfalso; omega
      · skip
        have c_30 : ¬ ((t.2.2.2 1) ≤ i) := fun z => c_30 ((nI_leI (a := t.2.2.2 1) (b := i) (by omega) (by omega)).mpr z)
        refine lv_lload_n hx hb de_M_bendingAt_14 rfl (lv_at hl 2 rfl) ?_
        refine lv_aload_n hx hb de_M_bendingAt_15 rfl (lv_at hl 0 rfl) ?_
        refine va_get (D := (dC, dI)) (ci := 9) (v := .ref (ad 2)) (C := "StabilitySumsModel") (T := TB_M) (N := 33) hx hb hts ui_M hown hK hP 0 rfl rfl 3 (by decide) (hts _ uw_699) (fun _ h9 => h9) rfl de_M_bendingAt_16 ?_
        refine lv_iload hx hb de_M_bendingAt_19 (lv_at hl 3 rfl) ?_
        refine rw_lald (f := t.1 1) (j := i) hx hb hK hP 2 0 rfl rfl (by omega) (by decide) de_M_bendingAt_21 ?_
        refine lv_lload_n hx hb de_M_bendingAt_22 rfl (lv_at hl 1 rfl) ?_
        refine rw_ge (tgt := 47) hx hb de_M_bendingAt_23 de_M_bendingAt_24 (by decide) (fun c_31 => ?_) (fun c_31 => ?_)
        · skip
          refine lv_lconst (v := 0) hx hb de_M_bendingAt_47 (by decide) ?_
          refine lv_ladd hx hb de_M_bendingAt_48 ?_
          refine lv_topl (fun v_32 ev_32 => ?_)
          have ev_32 : v_32 = a + 0 := ev_32
          refine lv_lstore_n (lv' := [(3, .long v_32), (0, .ref (ad 0)), (1, .long a0), (5, .int (nI i))]) hx hb de_M_bendingAt_49 rfl hl (by decide) rfl (fun ls hl => ?_)
          refine lv_iinc (v := (nI (i + 1))) (lv' := [(5, .int (nI (i + 1))), (3, .long v_32), (0, .ref (ad 0)), (1, .long a0)]) hx hb de_M_bendingAt_50 hl (k := 3) rfl (nI_1 i) (by decide) rfl (fun ls hl => ?_)
          refine lv_goto (tgt := 5) hx hb de_M_bendingAt_53 (by decide) ?_
          exact ih (i + 1) v_32 (by omega) (by rw [← hq, y_mw, ev_32, if_pos c_31]) H locs ls hP hD hS (lv_sub hl [2, 3, 1, 0] rfl)
        · skip
          refine lv_aload_n hx hb de_M_bendingAt_27 rfl (lv_at hl 0 rfl) ?_
          refine va_get (D := (dC, dI)) (ci := 9) (v := .ref (ad 11)) (C := "StabilitySumsModel") (T := TB_M) (N := 33) hx hb hts ui_M hown hK hP 0 rfl rfl 13 (by decide) (hts _ uw_709) (fun _ h9 => h9) rfl de_M_bendingAt_28 ?_
          refine lv_iload hx hb de_M_bendingAt_31 (lv_at hl 3 rfl) ?_
          refine rw_lald (f := t.1 10) (j := i) hx hb hK hP 11 0 rfl rfl (by omega) (by decide) de_M_bendingAt_33 ?_
          refine lv_lload_n hx hb de_M_bendingAt_34 rfl (lv_at hl 1 rfl) ?_
          refine lv_aload_n hx hb de_M_bendingAt_35 rfl (lv_at hl 0 rfl) ?_
          refine va_get (D := (dC, dI)) (ci := 9) (v := .ref (ad 2)) (C := "StabilitySumsModel") (T := TB_M) (N := 33) hx hb hts ui_M hown hK hP 0 rfl rfl 3 (by decide) (hts _ uw_699) (fun _ h9 => h9) rfl de_M_bendingAt_36 ?_
          refine lv_iload hx hb de_M_bendingAt_39 (lv_at hl 3 rfl) ?_
          refine rw_lald (f := t.1 1) (j := i) hx hb hK hP 2 0 rfl rfl (by omega) (by decide) de_M_bendingAt_41 ?_
          refine lv_lsub hx hb de_M_bendingAt_42 ?_
          refine lv_topl (fun v_33 ev_33 => ?_)
          have ev_33 : v_33 = a0 - (t.1 1 i) := ev_33
          refine lv_lmul hx hb de_M_bendingAt_43 ?_
          refine lv_topl (fun v_34 ev_34 => ?_)
          have ev_34 : v_34 = (t.1 10 i) * v_33 := ev_34
          refine lv_goto (tgt := 48) hx hb de_M_bendingAt_44 (by decide) ?_
          refine lv_ladd hx hb de_M_bendingAt_48 ?_
          refine lv_topl (fun v_35 ev_35 => ?_)
          have ev_35 : v_35 = a + v_34 := ev_35
          refine lv_lstore_n (lv' := [(3, .long v_35), (0, .ref (ad 0)), (1, .long a0), (5, .int (nI i))]) hx hb de_M_bendingAt_49 rfl hl (by decide) rfl (fun ls hl => ?_)
          refine lv_iinc (v := (nI (i + 1))) (lv' := [(5, .int (nI (i + 1))), (3, .long v_35), (0, .ref (ad 0)), (1, .long a0)]) hx hb de_M_bendingAt_50 hl (k := 3) rfl (nI_1 i) (by decide) rfl (fun ls hl => ?_)
          refine lv_goto (tgt := 5) hx hb de_M_bendingAt_53 (by decide) ?_
          exact ih (i + 1) v_35 (by omega) (by rw [← hq, y_mw, ev_35, ev_34, ev_33, if_neg c_31]) H locs ls hP hD hS (lv_sub hl [2, 3, 1, 0] rfl)
  exact loop_5 (t.2.2.2 1) 0 0 (by omega) rfl _ _ ls hP hD hS (lv_sub hl [2, 3, 1, 0] rfl)
