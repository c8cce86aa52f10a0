set_option maxHeartbeats 4000000 in
set_option maxRecDepth 100000 in
theorem mt_M_common (l : Launch) (dC : Nat → ClassId) (dI : Nat → Nat → Nat) (ad : Nat → Nat) (T : Nat → ClassId) (t : St) (a0 : Int64) (a1 : Int64)  (sz : Nat) : Met l yn_M_common (.code yn_M_common cd_M_common 10 (some .long) :: UW) ({ frames := 0, cells := 0, slots := 0, locals := 0 } : Room) (va_Pc [.long a0, .long a1] (Pw (dC, dI) CLS (TY T) (wM ad T t) sz)) (va_Ql (fun (r : Int64) (_ : Unit) => r = x_gcd (a1.toInt.natAbs) (y_ab a0) a1) (Bw (dC, dI) CLS (TY T) (fun _ : Unit => (wM ad T t)) (va_A (wM ad T t) sz)) (va_A (wM ad T t) sz)) 0 0 (va_A (wM ad T t) sz) := by
  refine Met.ofW (cc := cd_M_common) (maxL := 10) (ret := (some .long)) (by decide) rfl ?_
  intro p e s m args below meth c s₁ B hml hv
  obtain ⟨rfl, hsz, hP, hK, hD0, hN⟩ := hv
  have hx := B.exec
  have hb := B.bytes
  have hr := B.returns
  have hts : ∀ w ∈ UW, w.before _ s = true := fun w h => atoms_spec (ws := .code yn_M_common cd_M_common 10 (some .long) :: UW) B.pre w (List.mem_cons_of_mem _ h)
  have hown : s.vm.findClass "StabilitySumsModel" = some m.cls := findClass_of_methodNamed B.named
  have hlocks := B.notSynchronized
  subst hsz
  have hD := hD0.self (sz := s.heap.size)
  generalize hAe : va_A (wM ad T t) s.heap.size = A at hD ⊢
  have hA : ∀ q : Nat, s.heap.size ≤ q → A q := fun q h => by rw [← hAe]; exact Or.inr h
  have hS : va_S A s.heap s.heap [] := va_S.rf
  have hl := lv_entry ([.long a0, .long a1]) (n := 10) (Nat.le_of_ble_eq_true rfl)
  rw [lg_entry_eq]
  generalize (lg_sl ([.long a0, .long a1]) ++ List.replicate (10 - (lg_sl ([.long a0, .long a1])).length) Slot.unset).toArray = ls at hl ⊢
  have hl : lv_has ls 10 [(0, .long a0), (2, .long a1)] := hl
  generalize hQ : MQ below _ _ s 0 0 A = Q
  refine lv_lload_n hx hb de_M_common_0 rfl (lv_at hl 0 rfl) ?_
  refine lv_lconst (v := 0) hx hb de_M_common_1 (by decide) ?_
  refine rw_ge (tgt := 11) hx hb de_M_common_2 de_M_common_3 (by decide) (fun c_1 => ?_) (fun c_1 => ?_)
  · skip
    refine lv_lload_n hx hb de_M_common_11 rfl (lv_at hl 0 rfl) ?_
    refine lv_lstore (lv' := [(4, .long a0), (0, .long a0), (2, .long a1)]) hx hb de_M_common_12 hl (by decide) rfl (fun ls hl => ?_)
    refine lv_lload_n hx hb de_M_common_14 rfl (lv_at hl 2 rfl) ?_
    refine lv_lstore (lv' := [(6, .long a1), (4, .long a0), (0, .long a0), (2, .long a1)]) hx hb de_M_common_15 hl (by decide) rfl (fun ls hl => ?_)
    have loop_17 : ∀ (n : Nat) (x y : Int64), (y.toInt.natAbs ≤ n) → (x_gcd n x y = x_gcd (a1.toInt.natAbs) (y_ab a0) a1) → ∀ (H : Heap) (locs : List Loc) (ls : Array Slot), va_P (dC, dI) CLS (wM ad T t) H → va_D A (wM ad T t) → va_S A s.heap H locs → lv_has ls 10 [(4, .long x), (6, .long y)] → W p l e (headSpec (.code yn_M_common cd_M_common 10 (some .long) :: UW) ({ frames := 0, cells := 0, slots := 0, locals := 0 } : Room)).room s m ([.long a0, .long a1] : List Value).toArray below meth c H locs 0 0 Q (F0 m 17 ls []) := by
      intro n
      induction n with
      | zero =>
        intro x y hm hq H locs ls hP hD hS hl
        refine lv_lload hx hb de_M_common_17 (lv_at hl 1 rfl) ?_
        refine lv_lconst (v := 0) hx hb de_M_common_19 (by decide) ?_
        refine rw_eq (tgt := 42) hx hb de_M_common_20 de_M_common_21 (by decide) (fun c_2 => ?_) (fun c_2 => ?_)
        · skip
          refine lv_lload hx hb de_M_common_42 (lv_at hl 0 rfl) ?_
          subst hQ
          have hpost : (x : Int64) = x_gcd (a1.toInt.natAbs) (y_ab a0) a1 := by
            rw [← hq]; first | rfl | (rw [x_gcd, if_pos c_2])
          exact W.lret (v := x) hx hb hr (fun t9 ht hW => ⟨⟨x, (), rfl, hpost, by rw [ht]; exact hP, va_K.moved hW.alike hK, hD⟩, hS.F ht⟩) hS.2.2 de_M_common_44
        · skip
          exact absurd (l_z hm) c_2
      | succ n ih =>
        intro x y hm hq H locs ls hP hD hS hl
        refine lv_lload hx hb de_M_common_17 (lv_at hl 1 rfl) ?_
        refine lv_lconst (v := 0) hx hb de_M_common_19 (by decide) ?_
        refine rw_eq (tgt := 42) hx hb de_M_common_20 de_M_common_21 (by decide) (fun c_3 => ?_) (fun c_3 => ?_)
        · skip
          refine lv_lload hx hb de_M_common_42 (lv_at hl 0 rfl) ?_
          subst hQ
          have hpost : (x : Int64) = x_gcd (a1.toInt.natAbs) (y_ab a0) a1 := by
            rw [← hq]; first | rfl | (rw [x_gcd, if_pos c_3])
          exact W.lret (v := x) hx hb hr (fun t9 ht hW => ⟨⟨x, (), rfl, hpost, by rw [ht]; exact hP, va_K.moved hW.alike hK, hD⟩, hS.F ht⟩) hS.2.2 de_M_common_44
        · skip
          refine lv_lload hx hb de_M_common_24 (lv_at hl 0 rfl) ?_
          refine lv_lload hx hb de_M_common_26 (lv_at hl 1 rfl) ?_
          refine lv_lrem hx hb de_M_common_28 c_3 ?_
          refine lv_topl (fun v_4 ev_4 => ?_)
          have ev_4 : v_4 = x - x / y * y := ev_4
          refine lv_lstore (lv' := [(8, .long v_4), (4, .long x), (6, .long y)]) hx hb de_M_common_29 hl (by decide) rfl (fun ls hl => ?_)
          refine lv_lload hx hb de_M_common_31 (lv_at hl 2 rfl) ?_
          refine lv_lstore (lv' := [(4, .long y), (8, .long v_4), (6, .long y)]) hx hb de_M_common_33 hl (by decide) rfl (fun ls hl => ?_)
          refine lv_lload hx hb de_M_common_35 (lv_at hl 1 rfl) ?_
          refine lv_lstore (lv' := [(6, .long v_4), (4, .long y), (8, .long v_4)]) hx hb de_M_common_37 hl (by decide) rfl (fun ls hl => ?_)
          refine lv_goto (tgt := 17) hx hb de_M_common_39 (by decide) ?_
          exact ih y v_4 (by have := l_rlt x c_3; rw [ev_4]; omega) (by rw [← hq, x_gcd, if_neg c_3, ev_4]) H locs ls hP hD hS (lv_sub hl [1, 0] rfl)
    exact loop_17 _ a0 a1 (Nat.le_refl _) (by unfold y_ab; rw [if_pos c_1]) _ _ ls hP hD hS (lv_sub hl [1, 0] rfl)
  · skip
    refine lv_lload_n hx hb de_M_common_6 rfl (lv_at hl 0 rfl) ?_
    refine lv_lneg hx hb de_M_common_7 ?_
    refine lv_topl (fun v_5 ev_5 => ?_)
    have ev_5 : v_5 = -a0 := ev_5
    refine lv_goto (tgt := 12) hx hb de_M_common_8 (by decide) ?_
    refine lv_lstore (lv' := [(4, .long v_5), (0, .long a0), (2, .long a1)]) hx hb de_M_common_12 hl (by decide) rfl (fun ls hl => ?_)
    refine lv_lload_n hx hb de_M_common_14 rfl (lv_at hl 2 rfl) ?_
    refine lv_lstore (lv' := [(6, .long a1), (4, .long v_5), (0, .long a0), (2, .long a1)]) hx hb de_M_common_15 hl (by decide) rfl (fun ls hl => ?_)
    have loop_17 : ∀ (n : Nat) (x y : Int64), (y.toInt.natAbs ≤ n) → (x_gcd n x y = x_gcd (a1.toInt.natAbs) (y_ab a0) a1) → ∀ (H : Heap) (locs : List Loc) (ls : Array Slot), va_P (dC, dI) CLS (wM ad T t) H → va_D A (wM ad T t) → va_S A s.heap H locs → lv_has ls 10 [(4, .long x), (6, .long y)] → W p l e (headSpec (.code yn_M_common cd_M_common 10 (some .long) :: UW) ({ frames := 0, cells := 0, slots := 0, locals := 0 } : Room)).room s m ([.long a0, .long a1] : List Value).toArray below meth c H locs 0 0 Q (F0 m 17 ls []) := by
      intro n
      induction n with
      | zero =>
        intro x y hm hq H locs ls hP hD hS hl
        refine lv_lload hx hb de_M_common_17 (lv_at hl 1 rfl) ?_
        refine lv_lconst (v := 0) hx hb de_M_common_19 (by decide) ?_
        refine rw_eq (tgt := 42) hx hb de_M_common_20 de_M_common_21 (by decide) (fun c_6 => ?_) (fun c_6 => ?_)
        · skip
          refine lv_lload hx hb de_M_common_42 (lv_at hl 0 rfl) ?_
          subst hQ
          have hpost : (x : Int64) = x_gcd (a1.toInt.natAbs) (y_ab a0) a1 := by
            rw [← hq]; first | rfl | (rw [x_gcd, if_pos c_6])
          exact W.lret (v := x) hx hb hr (fun t9 ht hW => ⟨⟨x, (), rfl, hpost, by rw [ht]; exact hP, va_K.moved hW.alike hK, hD⟩, hS.F ht⟩) hS.2.2 de_M_common_44
        · skip
          exact absurd (l_z hm) c_6
      | succ n ih =>
        intro x y hm hq H locs ls hP hD hS hl
        refine lv_lload hx hb de_M_common_17 (lv_at hl 1 rfl) ?_
        refine lv_lconst (v := 0) hx hb de_M_common_19 (by decide) ?_
        refine rw_eq (tgt := 42) hx hb de_M_common_20 de_M_common_21 (by decide) (fun c_7 => ?_) (fun c_7 => ?_)
        · skip
          refine lv_lload hx hb de_M_common_42 (lv_at hl 0 rfl) ?_
          subst hQ
          have hpost : (x : Int64) = x_gcd (a1.toInt.natAbs) (y_ab a0) a1 := by
            rw [← hq]; first | rfl | (rw [x_gcd, if_pos c_7])
          exact W.lret (v := x) hx hb hr (fun t9 ht hW => ⟨⟨x, (), rfl, hpost, by rw [ht]; exact hP, va_K.moved hW.alike hK, hD⟩, hS.F ht⟩) hS.2.2 de_M_common_44
        · skip
          refine lv_lload hx hb de_M_common_24 (lv_at hl 0 rfl) ?_
          refine lv_lload hx hb de_M_common_26 (lv_at hl 1 rfl) ?_
          refine lv_lrem hx hb de_M_common_28 c_7 ?_
          refine lv_topl (fun v_8 ev_8 => ?_)
          have ev_8 : v_8 = x - x / y * y := ev_8
          refine lv_lstore (lv' := [(8, .long v_8), (4, .long x), (6, .long y)]) hx hb de_M_common_29 hl (by decide) rfl (fun ls hl => ?_)
          refine lv_lload hx hb de_M_common_31 (lv_at hl 2 rfl) ?_
          refine lv_lstore (lv' := [(4, .long y), (8, .long v_8), (6, .long y)]) hx hb de_M_common_33 hl (by decide) rfl (fun ls hl => ?_)
          refine lv_lload hx hb de_M_common_35 (lv_at hl 1 rfl) ?_
          refine lv_lstore (lv' := [(6, .long v_8), (4, .long y), (8, .long v_8)]) hx hb de_M_common_37 hl (by decide) rfl (fun ls hl => ?_)
          refine lv_goto (tgt := 17) hx hb de_M_common_39 (by decide) ?_
          exact ih y v_8 (by have := l_rlt x c_7; rw [ev_8]; omega) (by rw [← hq, x_gcd, if_neg c_7, ev_8]) H locs ls hP hD hS (lv_sub hl [1, 0] rfl)
    exact loop_17 _ v_5 a1 (Nat.le_refl _) (by unfold y_ab; rw [if_neg c_1, ev_5]) _ _ ls hP hD hS (lv_sub hl [1, 0] rfl)
