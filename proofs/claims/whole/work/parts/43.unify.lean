section USP
noncomputable def k_weight (a0 : Int64) (a1 : Int64) (a2 : Int64) (a3 : Int64) (t : St) : Int32 := @ite _ (okW a0 a1 a2 a3) (Classical.propDecidable _) (@ite _ (t.2.2.2 0 < 40) (Classical.propDecidable _) 0 2) 1
noncomputable def s_weight (a0 : Int64) (a1 : Int64) (a2 : Int64) (a3 : Int64) (t : St) : St := if k_weight a0 a1 a2 a3 t = 0 then (x_wapp a0 a1 a2 a3 t) else t
noncomputable def v_weight (a0 : Int64) (a1 : Int64) (a2 : Int64) (a3 : Int64) (t : St) : Int64 := (nI (t.2.2.2 0) : Int32).toInt64
noncomputable def o_weight (a0 : Int64) (a1 : Int64) (a2 : Int64) (a3 : Int64) (t : St) (ob : Nat → Int64) : Nat → Int64 := if k_weight a0 a1 a2 a3 t = 0 then vp_updL ob 0 (v_weight a0 a1 a2 a3 t) else ob
noncomputable def k_tank (a0 : Int64) (a1 : Int64) (a2 : Int64) (a3 : Int64) (a4 : Int64) (t : St) : Int32 := @ite _ (okT a0 a1 a2 a3 a4) (Classical.propDecidable _) (@ite _ (t.2.2.2 1 < 4) (Classical.propDecidable _) 0 2) 1
noncomputable def s_tank (a0 : Int64) (a1 : Int64) (a2 : Int64) (a3 : Int64) (a4 : Int64) (t : St) : St := if k_tank a0 a1 a2 a3 a4 t = 0 then (x_tapp a0 a1 a2 a3 a4 t) else t
noncomputable def v_tank (a0 : Int64) (a1 : Int64) (a2 : Int64) (a3 : Int64) (a4 : Int64) (t : St) : Int64 := (nI (t.2.2.2 1) : Int32).toInt64
noncomputable def o_tank (a0 : Int64) (a1 : Int64) (a2 : Int64) (a3 : Int64) (a4 : Int64) (t : St) (ob : Nat → Int64) : Nat → Int64 := if k_tank a0 a1 a2 a3 a4 t = 0 then vp_updL ob 0 (v_tank a0 a1 a2 a3 a4 t) else ob
noncomputable def k_filled (a0 : Int32) (a1 : Int64) (t : St) : Int32 := @ite _ (x_th a0 (t.2.2.2 1)) (Classical.propDecidable _) 0 1
noncomputable def s_filled (a0 : Int32) (a1 : Int64) (t : St) : St := if k_filled a0 a1 t = 0 then (if x_in a1 0 (t.1 4 a0.toNatClampNeg) then sL t 9 a0.toNatClampNeg a1 else t) else t
noncomputable def v_filled (a0 : Int32) (a1 : Int64) (t : St) : Int64 := (if x_in a1 0 (t.1 4 a0.toNatClampNeg) then 1 else 0 : Int32).toInt64
noncomputable def o_filled (a0 : Int32) (a1 : Int64) (t : St) (ob : Nat → Int64) : Nat → Int64 := if k_filled a0 a1 t = 0 then vp_updL ob 0 (v_filled a0 a1 t) else ob
noncomputable def k_hydro (a0 : Int64) (a1 : Int64) (a2 : Int64) (t : St) : Int32 := @ite _ (okHx a0 a1 a2 t) (Classical.propDecidable _) (@ite _ (t.2.2.2 2 < 12) (Classical.propDecidable _) 0 2) 1
noncomputable def s_hydro (a0 : Int64) (a1 : Int64) (a2 : Int64) (t : St) : St := if k_hydro a0 a1 a2 t = 0 then (x_bapp a0 a1 a2 t) else t
noncomputable def v_hydro (a0 : Int64) (a1 : Int64) (a2 : Int64) (t : St) : Int64 := (nI (t.2.2.2 2 + 1) : Int32).toInt64
noncomputable def o_hydro (a0 : Int64) (a1 : Int64) (a2 : Int64) (t : St) (ob : Nat → Int64) : Nat → Int64 := if k_hydro a0 a1 a2 t = 0 then vp_updL ob 0 (v_hydro a0 a1 a2 t) else ob
noncomputable def k_value (a0 : Int32) (a1 : Int32) (t : St) : Int32 := @ite _ (okV a0 a1) (Classical.propDecidable _) (@ite _ (x_noans a0 (x_gath t)) (Classical.propDecidable _) 2 0) 1
noncomputable def s_value (a0 : Int32) (a1 : Int32) (t : St) : St := if k_value a0 a1 t = 0 then (x_vt a0 a1 t) else if k_value a0 a1 t = 2 then x_gath t else t
noncomputable def v_value (a0 : Int32) (a1 : Int32) (t : St) : Int64 := x_vv a0 a1 t
noncomputable def o_value (a0 : Int32) (a1 : Int32) (t : St) (ob : Nat → Int64) : Nat → Int64 := if k_value a0 a1 t = 0 then vp_updL ob 0 (v_value a0 a1 t) else ob
noncomputable def k_shear (a0 : Int64) (t : St) : Int32 := @ite _ (x_pl a0) (Classical.propDecidable _) 0 1
noncomputable def s_shear (a0 : Int64) (t : St) : St := if k_shear a0 t = 0 then (x_sg a0 t) else t
noncomputable def v_shear (a0 : Int64) (t : St) : Int64 := x_shear (x_sg a0 t) 0
noncomputable def o_shear (a0 : Int64) (t : St) (ob : Nat → Int64) : Nat → Int64 := if k_shear a0 t = 0 then vp_updL ob 0 (v_shear a0 t) else ob
noncomputable def k_bending (a0 : Int64) (t : St) : Int32 := @ite _ (x_pl a0) (Classical.propDecidable _) 0 1
noncomputable def s_bending (a0 : Int64) (t : St) : St := if k_bending a0 t = 0 then (x_sg a0 t) else t
noncomputable def v_bending (a0 : Int64) (t : St) : Int64 := x_bend (x_sg a0 t) 0
noncomputable def o_bending (a0 : Int64) (t : St) (ob : Nat → Int64) : Nat → Int64 := if k_bending a0 t = 0 then vp_updL ob 0 (v_bending a0 t) else ob
noncomputable def k_limit (a0 : Int32) (a1 : Int64) (a2 : Int64) (a3 : Int64) (t : St) : Int32 := @ite _ (okLx a0 a1 a2 a3) (Classical.propDecidable _) (@ite _ (t.2.2.2 3 < 10) (Classical.propDecidable _) 0 2) 1
noncomputable def s_limit (a0 : Int32) (a1 : Int64) (a2 : Int64) (a3 : Int64) (t : St) : St := if k_limit a0 a1 a2 a3 t = 0 then (sL (x_lapp a0 a2 a3 t) 18 (t.2.2.2 3 + 1) a1) else t
noncomputable def v_limit (a0 : Int32) (a1 : Int64) (a2 : Int64) (a3 : Int64) (t : St) : Int64 := (nI (t.2.2.2 3 + 1) : Int32).toInt64
noncomputable def o_limit (a0 : Int32) (a1 : Int64) (a2 : Int64) (a3 : Int64) (t : St) (ob : Nat → Int64) : Nat → Int64 := if k_limit a0 a1 a2 a3 t = 0 then vp_updL ob 0 (v_limit a0 a1 a2 a3 t) else ob
noncomputable def k_fill (a0 : Int32) (t : St) : Int32 := @ite _ (x_th a0 (t.2.2.2 1)) (Classical.propDecidable _) 0 1
noncomputable def s_fill (a0 : Int32) (t : St) : St := if k_fill a0 t = 0 then ((x_pump t).2) else t
noncomputable def v_fill (a0 : Int32) (t : St) : Int64 := x_fv a0 t
noncomputable def o_fill (a0 : Int32) (t : St) (ob : Nat → Int64) : Nat → Int64 := if k_fill a0 t = 0 then vp_updL ob 0 (v_fill a0 t) else ob
noncomputable def k_plan (a0 : Int32) (a1 : Int32) (a2 : Int64) (t : St) : Int32 := @ite _ (x_th a1 (x_pn a0 t)) (Classical.propDecidable _) (@ite _ (x_pk a0 a1 a2 t) (Classical.propDecidable _) (@ite _ (t.2.2.2 4 < 20) (Classical.propDecidable _) 0 3) 2) 1
noncomputable def s_plan (a0 : Int32) (a1 : Int32) (a2 : Int64) (t : St) : St := if k_plan a0 a1 a2 t = 0 then (x_eapp a0 a1 a2 t) else t
noncomputable def v_plan (a0 : Int32) (a1 : Int32) (a2 : Int64) (t : St) : Int64 := (nI (t.2.2.2 4) : Int32).toInt64
noncomputable def o_plan (a0 : Int32) (a1 : Int32) (a2 : Int64) (t : St) (ob : Nat → Int64) : Nat → Int64 := if k_plan a0 a1 a2 t = 0 then vp_updL ob 0 (v_plan a0 a1 a2 t) else ob
noncomputable def k_step (a0 : Int32) (t : St) : Int32 := @ite _ (x_th a0 (t.2.2.2 4)) (Classical.propDecidable _) 0 1
noncomputable def s_step (a0 : Int32) (t : St) : St := if k_step a0 t = 0 then (x_lbt (x_ss a0 t)) else t
noncomputable def v_step (a0 : Int32) (t : St) : Int64 := (nI (x_lbn (x_ss a0 t)) : Int32).toInt64
noncomputable def o_step (a0 : Int32) (t : St) (ob : Nat → Int64) : Nat → Int64 := if k_step a0 t = 0 then vp_updL ob 0 (v_step a0 t) else ob
noncomputable def m_weight (a0 : Int64) (a1 : Int64) (a2 : Int64) (a3 : Int64) (u : St) : St := if okW a0 a1 a2 a3 then (if u.2.2.2 1 = 40 then sN u 0 2 else yw a0 a1 a2 a3 u) else sN u 0 1
noncomputable def w_weight (a0 : Int64) (a1 : Int64) (a2 : Int64) (a3 : Int64) (u : St) : Int32 := if okW a0 a1 a2 a3 then (if u.2.2.2 1 = 40 then 0 else nI (u.2.2.2 1)) else 0
noncomputable def m_tank (a0 : Int64) (a1 : Int64) (a2 : Int64) (a3 : Int64) (a4 : Int64) (u : St) : St := if okT a0 a1 a2 a3 a4 then (if u.2.2.2 2 = 4 then sN u 0 2 else yt a0 a1 a2 a3 a4 u) else sN u 0 1
noncomputable def w_tank (a0 : Int64) (a1 : Int64) (a2 : Int64) (a3 : Int64) (a4 : Int64) (u : St) : Int32 := if okT a0 a1 a2 a3 a4 then (if u.2.2.2 2 = 4 then 0 else nI (u.2.2.2 2)) else 0
noncomputable def m_filled (a0 : Int32) (a1 : Int64) (u : St) : St := if x_th a0 (u.2.2.2 2) then (if x_in a1 0 (u.1 4 a0.toNatClampNeg) then sL (sN u 0 0) 9 a0.toNatClampNeg a1 else sN u 0 0) else sN u 0 1
noncomputable def w_filled (a0 : Int32) (a1 : Int64) (u : St) : Int32 := if x_th a0 (u.2.2.2 2) then (if x_in a1 0 (u.1 4 a0.toNatClampNeg) then 1 else 0) else 0
noncomputable def m_hydro (a0 : Int64) (a1 : Int64) (a2 : Int64) (u : St) : St := if okH a0 a1 a2 u then (if u.2.2.2 3 = 12 then sN u 0 2 else yh a0 a1 a2 u) else sN u 0 1
noncomputable def w_hydro (a0 : Int64) (a1 : Int64) (a2 : Int64) (u : St) : Int32 := if okH a0 a1 a2 u then (if u.2.2.2 3 = 12 then 0 else nI (u.2.2.2 3 + 1)) else 0
noncomputable def m_value (a0 : Int32) (a1 : Int32) (u : St) : St := if okV a0 a1 then (if y_div a0 ∧ y_S 0 (y_pre u) = 0 then sN (y_pre u) 0 2 else y_rk a0 (y_v0 u)) else sN (y_pre u) 0 1
noncomputable def w_value (a0 : Int32) (a1 : Int32) (u : St) : Int64 := if okV a0 a1 then (if y_div a0 ∧ y_S 0 (y_pre u) = 0 then 0 else y_vv a0 a1 u) else 0
noncomputable def m_shear (a0 : Int64) (u : St) : St := if x_pl a0 then y_pre (sN u 0 0) else sN u 0 1
noncomputable def w_shear (a0 : Int64) (u : St) : Int64 := if x_pl a0 then y_shear a0 (y_pre (sN u 0 0)) else 0
noncomputable def m_bending (a0 : Int64) (u : St) : St := if x_pl a0 then y_pre (sN u 0 0) else sN u 0 1
noncomputable def w_bending (a0 : Int64) (u : St) : Int64 := if x_pl a0 then y_bend a0 (y_pre (sN u 0 0)) else 0
noncomputable def m_limit (a0 : Int32) (a1 : Int64) (a2 : Int64) (a3 : Int64) (u : St) : St := if okL a0 a1 a2 a3 then (if u.2.2.2 4 = 10 then sN u 0 2 else yl a0 a1 a2 a3 u) else sN u 0 1
noncomputable def w_limit (a0 : Int32) (a1 : Int64) (a2 : Int64) (a3 : Int64) (u : St) : Int32 := if okL a0 a1 a2 a3 then (if u.2.2.2 4 = 10 then 0 else nI (u.2.2.2 4 + 1)) else 0
noncomputable def m_fill (a0 : Int32) (u : St) : St := if x_th a0 (u.2.2.2 2) then (y_pump (sN u 0 0)).2 else sN u 0 1
noncomputable def w_fill (a0 : Int32) (u : St) : Int64 := if x_th a0 (u.2.2.2 2) then (if 0 ≤ (y_pump (sN u 0 0)).1 then (y_pump (sN u 0 0)).2.1 12 a0.toNatClampNeg else -1) else 0
noncomputable def m_plan (a0 : Int32) (a1 : Int32) (a2 : Int64) (u : St) : St := y_pl3 a0 a1 a2 u (sN u 0 1) (sN u 0 2) (sN u 0 3) (yp a0 a1 a2 u)
noncomputable def w_plan (a0 : Int32) (a1 : Int32) (a2 : Int64) (u : St) : Int32 := y_pl3 a0 a1 a2 u 0 0 0 (nI (u.2.2.2 5))
noncomputable def m_step (a0 : Int32) (u : St) : St := if a0 < 0 then sN u 0 1 else if a0 < nI (u.2.2.2 5) then y_bs (y_bi a0.toNatClampNeg (sN u 0 0)) else sN u 0 1
noncomputable def w_step (a0 : Int32) (u : St) : Int32 := if a0 < 0 then 0 else if a0 < nI (u.2.2.2 5) then nI (y_bn (y_bi a0.toNatClampNeg (sN u 0 0))) else 0
noncomputable def m_hull (a0 : Int64) (a1 : Int64) (u : St) : St := if x_hullp a0 a1 then sF (sF (sN u 0 0) 0 a0) 1 a1 else sN u 0 0
noncomputable def m_check  (u : St) : St := y_bs (y_pre (sN u 0 0))
noncomputable def w_check  (u : St) : Int32 := nI (y_bn (y_pre (sN u 0 0)))
noncomputable def m_ballast  (u : St) : St := (y_pump (sN u 0 0)).2
noncomputable def w_ballast  (u : St) : Int64 := (y_pump (sN u 0 0)).1
noncomputable def m_broken  (u : St) : St := (y_broken u).2
noncomputable def w_broken  (u : St) : Int32 := (y_broken u).1
noncomputable def m_count (a0 : Int32) (u : St) : St := sN u 0 0
noncomputable def w_count (a0 : Int32) (u : St) : Int32 := y_cnt a0 u
end USP
theorem uA_weight (l : Launch) (hlt : l.stackTraces = false) (dC : Nat → ClassId) (dI : Nat → Nat → Nat) (ad : Nat → Nat) (T : Nat → ClassId) (o : Nat) (ob : Nat → Int64) (t : St) (a0 : Int64) (a1 : Int64) (a2 : Int64) (a3 : Int64) (hI : Iv t) (sz : Nat) : Met l yn_A_weight (.codeWith yn_A_weight cd_A_weight 11 (some .int) [(0, 15, 18, 13), (0, 15, 22, 15)] :: UW) ({ frames := 7, cells := 1, slots := 6, locals := 118 } : Room) (va_Pc [.ref (ad 0), .long a0, .long a1, .long a2, .long a3, .ref o] (Px (dC, dI) CLS (TY T) (wA ad T t o ob) sz)) (va_Qi (fun (r : Int32) (_ : Unit) => r = k_weight a0 a1 a2 a3 t) (Bw (dC, dI) CLS (TY T) (fun _ : Unit => wA ad T (s_weight a0 a1 a2 a3 t) o (o_weight a0 a1 a2 a3 t ob)) (va_A (wA ad T t o ob) sz)) (va_A (wA ad T t o ob) sz)) 1 6 (va_A (wA ad T t o ob) sz) := by
  by_cases h0 : okW a0 a1 a2 a3
  · skip
    by_cases h1 : t.2.2.2 0 < 40
    · skip
      have e1 : k_weight a0 a1 a2 a3 t = 0 := by rw [k_weight, if_pos h0, if_pos h1]
      have e2 : s_weight a0 a1 a2 a3 t = x_wapp a0 a1 a2 a3 t := if_pos e1
      have e3 : o_weight a0 a1 a2 a3 t ob = _ := if_pos e1
      rw [e2, e3, e1]
      exact mt_A_weight l hlt dC dI ad T o ob t a0 a1 a2 a3 hI (by assumption) (by assumption) sz
    · skip
      have e1 : k_weight a0 a1 a2 a3 t = 2 := by rw [k_weight, if_pos h0, if_neg h1]
      have e0 : ¬ k_weight a0 a1 a2 a3 t = 0 := by rw [e1]; decide
      have e2 : s_weight a0 a1 a2 a3 t = t := if_neg e0
      have e3 : o_weight a0 a1 a2 a3 t ob = ob := if_neg e0
      rw [e2, e3, e1]
      exact mt_A_weight_2 l hlt dC dI ad T o ob t a0 a1 a2 a3 hI (by assumption) (by assumption) sz
  · skip
    have e1 : k_weight a0 a1 a2 a3 t = 1 := by rw [k_weight, if_neg h0]
    have e0 : ¬ k_weight a0 a1 a2 a3 t = 0 := by rw [e1]; decide
    have e2 : s_weight a0 a1 a2 a3 t = t := if_neg e0
    have e3 : o_weight a0 a1 a2 a3 t ob = ob := if_neg e0
    rw [e2, e3, e1]
    exact mt_A_weight_1 l hlt dC dI ad T o ob t a0 a1 a2 a3 hI (by assumption) sz
theorem uA_tank (l : Launch) (hlt : l.stackTraces = false) (dC : Nat → ClassId) (dI : Nat → Nat → Nat) (ad : Nat → Nat) (T : Nat → ClassId) (o : Nat) (ob : Nat → Int64) (t : St) (a0 : Int64) (a1 : Int64) (a2 : Int64) (a3 : Int64) (a4 : Int64) (hI : Iv t) (sz : Nat) : Met l yn_A_tank (.codeWith yn_A_tank cd_A_tank 13 (some .int) [(0, 17, 20, 13), (0, 17, 24, 15)] :: UW) ({ frames := 7, cells := 1, slots := 6, locals := 120 } : Room) (va_Pc [.ref (ad 0), .long a0, .long a1, .long a2, .long a3, .long a4, .ref o] (Px (dC, dI) CLS (TY T) (wA ad T t o ob) sz)) (va_Qi (fun (r : Int32) (_ : Unit) => r = k_tank a0 a1 a2 a3 a4 t) (Bw (dC, dI) CLS (TY T) (fun _ : Unit => wA ad T (s_tank a0 a1 a2 a3 a4 t) o (o_tank a0 a1 a2 a3 a4 t ob)) (va_A (wA ad T t o ob) sz)) (va_A (wA ad T t o ob) sz)) 1 6 (va_A (wA ad T t o ob) sz) := by
  by_cases h0 : okT a0 a1 a2 a3 a4
  · skip
    by_cases h1 : t.2.2.2 1 < 4
    · skip
      have e1 : k_tank a0 a1 a2 a3 a4 t = 0 := by rw [k_tank, if_pos h0, if_pos h1]
      have e2 : s_tank a0 a1 a2 a3 a4 t = x_tapp a0 a1 a2 a3 a4 t := if_pos e1
      have e3 : o_tank a0 a1 a2 a3 a4 t ob = _ := if_pos e1
      rw [e2, e3, e1]
      exact mt_A_tank l hlt dC dI ad T o ob t a0 a1 a2 a3 a4 hI (by assumption) (by assumption) sz
    · skip
      have e1 : k_tank a0 a1 a2 a3 a4 t = 2 := by rw [k_tank, if_pos h0, if_neg h1]
      have e0 : ¬ k_tank a0 a1 a2 a3 a4 t = 0 := by rw [e1]; decide
      have e2 : s_tank a0 a1 a2 a3 a4 t = t := if_neg e0
      have e3 : o_tank a0 a1 a2 a3 a4 t ob = ob := if_neg e0
      rw [e2, e3, e1]
      exact mt_A_tank_2 l hlt dC dI ad T o ob t a0 a1 a2 a3 a4 hI (by assumption) (by assumption) sz
  · skip
    have e1 : k_tank a0 a1 a2 a3 a4 t = 1 := by rw [k_tank, if_neg h0]
    have e0 : ¬ k_tank a0 a1 a2 a3 a4 t = 0 := by rw [e1]; decide
    have e2 : s_tank a0 a1 a2 a3 a4 t = t := if_neg e0
    have e3 : o_tank a0 a1 a2 a3 a4 t ob = ob := if_neg e0
    rw [e2, e3, e1]
    exact mt_A_tank_1 l hlt dC dI ad T o ob t a0 a1 a2 a3 a4 hI (by assumption) sz
theorem uA_filled (l : Launch) (hlt : l.stackTraces = false) (dC : Nat → ClassId) (dI : Nat → Nat → Nat) (ad : Nat → Nat) (T : Nat → ClassId) (o : Nat) (ob : Nat → Int64) (t : St) (a0 : Int32) (a1 : Int64) (hI : Iv t) (sz : Nat) : Met l yn_A_filled (.codeWith yn_A_filled cd_A_filled 6 (some .int) [(0, 11, 14, 25)] :: UW) ({ frames := 7, cells := 1, slots := 6, locals := 113 } : Room) (va_Pc [.ref (ad 0), .int a0, .long a1, .ref o] (Px (dC, dI) CLS (TY T) (wA ad T t o ob) sz)) (va_Qi (fun (r : Int32) (_ : Unit) => r = k_filled a0 a1 t) (Bw (dC, dI) CLS (TY T) (fun _ : Unit => wA ad T (s_filled a0 a1 t) o (o_filled a0 a1 t ob)) (va_A (wA ad T t o ob) sz)) (va_A (wA ad T t o ob) sz)) 1 6 (va_A (wA ad T t o ob) sz) := by
  by_cases h0 : x_th a0 (t.2.2.2 1)
  · skip
    have e1 : k_filled a0 a1 t = 0 := by rw [k_filled, if_pos h0]
    have e2 : s_filled a0 a1 t = if x_in a1 0 (t.1 4 a0.toNatClampNeg) then sL t 9 a0.toNatClampNeg a1 else t := if_pos e1
    have e3 : o_filled a0 a1 t ob = _ := if_pos e1
    rw [e2, e3, e1]
    exact mt_A_filled l hlt dC dI ad T o ob t a0 a1 hI (by assumption) sz
  · skip
    have e1 : k_filled a0 a1 t = 1 := by rw [k_filled, if_neg h0]
    have e0 : ¬ k_filled a0 a1 t = 0 := by rw [e1]; decide
    have e2 : s_filled a0 a1 t = t := if_neg e0
    have e3 : o_filled a0 a1 t ob = ob := if_neg e0
    rw [e2, e3, e1]
    exact mt_A_filled_1 l hlt dC dI ad T o ob t a0 a1 hI (by assumption) sz
theorem uA_hydro (l : Launch) (hlt : l.stackTraces = false) (dC : Nat → ClassId) (dI : Nat → Nat → Nat) (ad : Nat → Nat) (T : Nat → ClassId) (o : Nat) (ob : Nat → Int64) (t : St) (a0 : Int64) (a1 : Int64) (a2 : Int64) (hI : Iv t) (sz : Nat) : Met l yn_A_hydro (.codeWith yn_A_hydro cd_A_hydro 9 (some .int) [(0, 13, 16, 13), (0, 13, 20, 15)] :: UW) ({ frames := 7, cells := 1, slots := 6, locals := 116 } : Room) (va_Pc [.ref (ad 0), .long a0, .long a1, .long a2, .ref o] (Px (dC, dI) CLS (TY T) (wA ad T t o ob) sz)) (va_Qi (fun (r : Int32) (_ : Unit) => r = k_hydro a0 a1 a2 t) (Bw (dC, dI) CLS (TY T) (fun _ : Unit => wA ad T (s_hydro a0 a1 a2 t) o (o_hydro a0 a1 a2 t ob)) (va_A (wA ad T t o ob) sz)) (va_A (wA ad T t o ob) sz)) 1 6 (va_A (wA ad T t o ob) sz) := by
  by_cases h0 : okHx a0 a1 a2 t
  · skip
    by_cases h1 : t.2.2.2 2 < 12
    · skip
      have e1 : k_hydro a0 a1 a2 t = 0 := by rw [k_hydro, if_pos h0, if_pos h1]
      have e2 : s_hydro a0 a1 a2 t = x_bapp a0 a1 a2 t := if_pos e1
      have e3 : o_hydro a0 a1 a2 t ob = _ := if_pos e1
      rw [e2, e3, e1]
      exact mt_A_hydro l hlt dC dI ad T o ob t a0 a1 a2 hI (by assumption) (by assumption) sz
    · skip
      have e1 : k_hydro a0 a1 a2 t = 2 := by rw [k_hydro, if_pos h0, if_neg h1]
      have e0 : ¬ k_hydro a0 a1 a2 t = 0 := by rw [e1]; decide
      have e2 : s_hydro a0 a1 a2 t = t := if_neg e0
      have e3 : o_hydro a0 a1 a2 t ob = ob := if_neg e0
      rw [e2, e3, e1]
      exact mt_A_hydro_2 l hlt dC dI ad T o ob t a0 a1 a2 hI (by assumption) (by assumption) sz
  · skip
    have e1 : k_hydro a0 a1 a2 t = 1 := by rw [k_hydro, if_neg h0]
    have e0 : ¬ k_hydro a0 a1 a2 t = 0 := by rw [e1]; decide
    have e2 : s_hydro a0 a1 a2 t = t := if_neg e0
    have e3 : o_hydro a0 a1 a2 t ob = ob := if_neg e0
    rw [e2, e3, e1]
    exact mt_A_hydro_1 l hlt dC dI ad T o ob t a0 a1 a2 hI (by assumption) sz
theorem uA_value (l : Launch) (hlt : l.stackTraces = false) (dC : Nat → ClassId) (dI : Nat → Nat → Nat) (ad : Nat → Nat) (T : Nat → ClassId) (o : Nat) (ob : Nat → Int64) (t : St) (a0 : Int32) (a1 : Int32) (hI : Iv t) (sz : Nat) : Met l yn_A_value (.codeWith yn_A_value cd_A_value 5 (some .int) [(0, 9, 12, 13), (0, 9, 16, 35)] :: UW) ({ frames := 7, cells := 1, slots := 6, locals := 114 } : Room) (va_Pc [.ref (ad 0), .int a0, .int a1, .ref o] (Px (dC, dI) CLS (TY T) (wA ad T t o ob) sz)) (va_Qi (fun (r : Int32) (_ : Unit) => r = k_value a0 a1 t) (Bw (dC, dI) CLS (TY T) (fun _ : Unit => wA ad T (s_value a0 a1 t) o (o_value a0 a1 t ob)) (va_A (wA ad T t o ob) sz)) (va_A (wA ad T t o ob) sz)) 1 6 (va_A (wA ad T t o ob) sz) := by
  by_cases h0 : okV a0 a1
  · skip
    by_cases h1 : x_noans a0 (x_gath t)
    · skip
      have e1 : k_value a0 a1 t = 2 := by rw [k_value, if_pos h0, if_pos h1]
      have e0 : ¬ k_value a0 a1 t = 0 := by rw [e1]; decide
      have e2 : s_value a0 a1 t = x_gath t := (if_neg e0).trans (if_pos e1)
      have e3 : o_value a0 a1 t ob = ob := if_neg e0
      rw [e2, e3, e1]
      exact mt_A_value_2 l hlt dC dI ad T o ob t a0 a1 hI (by assumption) (by assumption) sz
    · skip
      have e1 : k_value a0 a1 t = 0 := by rw [k_value, if_pos h0, if_neg h1]
      have e2 : s_value a0 a1 t = x_vt a0 a1 t := if_pos e1
      have e3 : o_value a0 a1 t ob = _ := if_pos e1
      rw [e2, e3, e1]
      exact mt_A_value l hlt dC dI ad T o ob t a0 a1 hI (by assumption) (by assumption) sz
  · skip
    have e1 : k_value a0 a1 t = 1 := by rw [k_value, if_neg h0]
    have e0 : ¬ k_value a0 a1 t = 0 := by rw [e1]; decide
    have e2 : s_value a0 a1 t = t := (if_neg e0).trans (if_neg (by rw [e1]; decide))
    have e3 : o_value a0 a1 t ob = ob := if_neg e0
    rw [e2, e3, e1]
    exact mt_A_value_1 l hlt dC dI ad T o ob t a0 a1 hI (by assumption) sz
theorem uA_shear (l : Launch) (hlt : l.stackTraces = false) (dC : Nat → ClassId) (dI : Nat → Nat → Nat) (ad : Nat → Nat) (T : Nat → ClassId) (o : Nat) (ob : Nat → Int64) (t : St) (a0 : Int64) (hI : Iv t) (sz : Nat) : Met l yn_A_shear (.codeWith yn_A_shear cd_A_shear 5 (some .int) [(0, 8, 11, 13)] :: UW) ({ frames := 7, cells := 1, slots := 6, locals := 114 } : Room) (va_Pc [.ref (ad 0), .long a0, .ref o] (Px (dC, dI) CLS (TY T) (wA ad T t o ob) sz)) (va_Qi (fun (r : Int32) (_ : Unit) => r = k_shear a0 t) (Bw (dC, dI) CLS (TY T) (fun _ : Unit => wA ad T (s_shear a0 t) o (o_shear a0 t ob)) (va_A (wA ad T t o ob) sz)) (va_A (wA ad T t o ob) sz)) 1 6 (va_A (wA ad T t o ob) sz) := by
  by_cases h0 : x_pl a0
  · skip
    have e1 : k_shear a0 t = 0 := by rw [k_shear, if_pos h0]
    have e2 : s_shear a0 t = x_sg a0 t := if_pos e1
    have e3 : o_shear a0 t ob = _ := if_pos e1
    rw [e2, e3, e1]
    exact mt_A_shear l hlt dC dI ad T o ob t a0 hI (by assumption) sz
  · skip
    have e1 : k_shear a0 t = 1 := by rw [k_shear, if_neg h0]
    have e0 : ¬ k_shear a0 t = 0 := by rw [e1]; decide
    have e2 : s_shear a0 t = t := if_neg e0
    have e3 : o_shear a0 t ob = ob := if_neg e0
    rw [e2, e3, e1]
    exact mt_A_shear_1 l hlt dC dI ad T o ob t a0 hI (by assumption) sz
theorem uA_bending (l : Launch) (hlt : l.stackTraces = false) (dC : Nat → ClassId) (dI : Nat → Nat → Nat) (ad : Nat → Nat) (T : Nat → ClassId) (o : Nat) (ob : Nat → Int64) (t : St) (a0 : Int64) (hI : Iv t) (sz : Nat) : Met l yn_A_bending (.codeWith yn_A_bending cd_A_bending 5 (some .int) [(0, 8, 11, 13)] :: UW) ({ frames := 7, cells := 1, slots := 6, locals := 114 } : Room) (va_Pc [.ref (ad 0), .long a0, .ref o] (Px (dC, dI) CLS (TY T) (wA ad T t o ob) sz)) (va_Qi (fun (r : Int32) (_ : Unit) => r = k_bending a0 t) (Bw (dC, dI) CLS (TY T) (fun _ : Unit => wA ad T (s_bending a0 t) o (o_bending a0 t ob)) (va_A (wA ad T t o ob) sz)) (va_A (wA ad T t o ob) sz)) 1 6 (va_A (wA ad T t o ob) sz) := by
  by_cases h0 : x_pl a0
  · skip
    have e1 : k_bending a0 t = 0 := by rw [k_bending, if_pos h0]
    have e2 : s_bending a0 t = x_sg a0 t := if_pos e1
    have e3 : o_bending a0 t ob = _ := if_pos e1
    rw [e2, e3, e1]
    exact mt_A_bending l hlt dC dI ad T o ob t a0 hI (by assumption) sz
  · skip
    have e1 : k_bending a0 t = 1 := by rw [k_bending, if_neg h0]
    have e0 : ¬ k_bending a0 t = 0 := by rw [e1]; decide
    have e2 : s_bending a0 t = t := if_neg e0
    have e3 : o_bending a0 t ob = ob := if_neg e0
    rw [e2, e3, e1]
    exact mt_A_bending_1 l hlt dC dI ad T o ob t a0 hI (by assumption) sz
theorem uA_limit (l : Launch) (hlt : l.stackTraces = false) (dC : Nat → ClassId) (dI : Nat → Nat → Nat) (ad : Nat → Nat) (T : Nat → ClassId) (o : Nat) (ob : Nat → Int64) (t : St) (a0 : Int32) (a1 : Int64) (a2 : Int64) (a3 : Int64) (hI : Iv t) (sz : Nat) : Met l yn_A_limit (.codeWith yn_A_limit cd_A_limit 10 (some .int) [(0, 15, 18, 13), (0, 15, 22, 15)] :: UW) ({ frames := 7, cells := 1, slots := 6, locals := 118 } : Room) (va_Pc [.ref (ad 0), .int a0, .long a1, .long a2, .long a3, .ref o] (Px (dC, dI) CLS (TY T) (wA ad T t o ob) sz)) (va_Qi (fun (r : Int32) (_ : Unit) => r = k_limit a0 a1 a2 a3 t) (Bw (dC, dI) CLS (TY T) (fun _ : Unit => wA ad T (s_limit a0 a1 a2 a3 t) o (o_limit a0 a1 a2 a3 t ob)) (va_A (wA ad T t o ob) sz)) (va_A (wA ad T t o ob) sz)) 1 6 (va_A (wA ad T t o ob) sz) := by
  by_cases h0 : okLx a0 a1 a2 a3
  · skip
    by_cases h1 : t.2.2.2 3 < 10
    · skip
      have e1 : k_limit a0 a1 a2 a3 t = 0 := by rw [k_limit, if_pos h0, if_pos h1]
      have e2 : s_limit a0 a1 a2 a3 t = sL (x_lapp a0 a2 a3 t) 18 (t.2.2.2 3 + 1) a1 := if_pos e1
      have e3 : o_limit a0 a1 a2 a3 t ob = _ := if_pos e1
      rw [e2, e3, e1]
      exact mt_A_limit l hlt dC dI ad T o ob t a0 a1 a2 a3 hI (by assumption) (by assumption) sz
    · skip
      have e1 : k_limit a0 a1 a2 a3 t = 2 := by rw [k_limit, if_pos h0, if_neg h1]
      have e0 : ¬ k_limit a0 a1 a2 a3 t = 0 := by rw [e1]; decide
      have e2 : s_limit a0 a1 a2 a3 t = t := if_neg e0
      have e3 : o_limit a0 a1 a2 a3 t ob = ob := if_neg e0
      rw [e2, e3, e1]
      exact mt_A_limit_2 l hlt dC dI ad T o ob t a0 a1 a2 a3 hI (by assumption) (by assumption) sz
  · skip
    have e1 : k_limit a0 a1 a2 a3 t = 1 := by rw [k_limit, if_neg h0]
    have e0 : ¬ k_limit a0 a1 a2 a3 t = 0 := by rw [e1]; decide
    have e2 : s_limit a0 a1 a2 a3 t = t := if_neg e0
    have e3 : o_limit a0 a1 a2 a3 t ob = ob := if_neg e0
    rw [e2, e3, e1]
    exact mt_A_limit_1 l hlt dC dI ad T o ob t a0 a1 a2 a3 hI (by assumption) sz
theorem uA_fill (l : Launch) (hlt : l.stackTraces = false) (dC : Nat → ClassId) (dI : Nat → Nat → Nat) (ad : Nat → Nat) (T : Nat → ClassId) (o : Nat) (ob : Nat → Int64) (t : St) (a0 : Int32) (hI : Iv t) (sz : Nat) : Met l yn_A_fill (.codeWith yn_A_fill cd_A_fill 4 (some .int) [(0, 8, 11, 25)] :: UW) ({ frames := 7, cells := 1, slots := 6, locals := 170 } : Room) (va_Pc [.ref (ad 0), .int a0, .ref o] (Px (dC, dI) CLS (TY T) (wA ad T t o ob) sz)) (va_Qi (fun (r : Int32) (_ : Unit) => r = k_fill a0 t) (Bw (dC, dI) CLS (TY T) (fun _ : Unit => wA ad T (s_fill a0 t) o (o_fill a0 t ob)) (va_A (wA ad T t o ob) sz)) (va_A (wA ad T t o ob) sz)) 1 6 (va_A (wA ad T t o ob) sz) := by
  by_cases h0 : x_th a0 (t.2.2.2 1)
  · skip
    have e1 : k_fill a0 t = 0 := by rw [k_fill, if_pos h0]
    have e2 : s_fill a0 t = (x_pump t).2 := if_pos e1
    have e3 : o_fill a0 t ob = _ := if_pos e1
    rw [e2, e3, e1]
    exact mt_A_fill l hlt dC dI ad T o ob t a0 hI (by assumption) sz
  · skip
    have e1 : k_fill a0 t = 1 := by rw [k_fill, if_neg h0]
    have e0 : ¬ k_fill a0 t = 0 := by rw [e1]; decide
    have e2 : s_fill a0 t = t := if_neg e0
    have e3 : o_fill a0 t ob = ob := if_neg e0
    rw [e2, e3, e1]
    exact mt_A_fill_1 l hlt dC dI ad T o ob t a0 hI (by assumption) sz
theorem uA_plan (l : Launch) (hlt : l.stackTraces = false) (dC : Nat → ClassId) (dI : Nat → Nat → Nat) (ad : Nat → Nat) (T : Nat → ClassId) (o : Nat) (ob : Nat → Int64) (t : St) (a0 : Int32) (a1 : Int32) (a2 : Int64) (hI : Iv t) (sz : Nat) : Met l yn_A_plan (.codeWith yn_A_plan cd_A_plan 7 (some .int) [(0, 12, 15, 25), (0, 12, 19, 13), (0, 12, 23, 15)] :: UW) ({ frames := 7, cells := 1, slots := 6, locals := 119 } : Room) (va_Pc [.ref (ad 0), .int a0, .int a1, .long a2, .ref o] (Px (dC, dI) CLS (TY T) (wA ad T t o ob) sz)) (va_Qi (fun (r : Int32) (_ : Unit) => r = k_plan a0 a1 a2 t) (Bw (dC, dI) CLS (TY T) (fun _ : Unit => wA ad T (s_plan a0 a1 a2 t) o (o_plan a0 a1 a2 t ob)) (va_A (wA ad T t o ob) sz)) (va_A (wA ad T t o ob) sz)) 1 6 (va_A (wA ad T t o ob) sz) := by
  by_cases h0 : x_th a1 (x_pn a0 t)
  · skip
    by_cases h1 : x_pk a0 a1 a2 t
    · skip
      by_cases h2 : t.2.2.2 4 < 20
      · skip
        have e1 : k_plan a0 a1 a2 t = 0 := by rw [k_plan, if_pos h0, if_pos h1, if_pos h2]
        have e2 : s_plan a0 a1 a2 t = x_eapp a0 a1 a2 t := if_pos e1
        have e3 : o_plan a0 a1 a2 t ob = _ := if_pos e1
        rw [e2, e3, e1]
        exact mt_A_plan l hlt dC dI ad T o ob t a0 a1 a2 hI (by assumption) (by assumption) (by assumption) sz
      · skip
        have e1 : k_plan a0 a1 a2 t = 3 := by rw [k_plan, if_pos h0, if_pos h1, if_neg h2]
        have e0 : ¬ k_plan a0 a1 a2 t = 0 := by rw [e1]; decide
        have e2 : s_plan a0 a1 a2 t = t := if_neg e0
        have e3 : o_plan a0 a1 a2 t ob = ob := if_neg e0
        rw [e2, e3, e1]
        exact mt_A_plan_3 l hlt dC dI ad T o ob t a0 a1 a2 hI (by assumption) (by assumption) (by assumption) sz
    · skip
      have e1 : k_plan a0 a1 a2 t = 2 := by rw [k_plan, if_pos h0, if_neg h1]
      have e0 : ¬ k_plan a0 a1 a2 t = 0 := by rw [e1]; decide
      have e2 : s_plan a0 a1 a2 t = t := if_neg e0
      have e3 : o_plan a0 a1 a2 t ob = ob := if_neg e0
      rw [e2, e3, e1]
      exact mt_A_plan_2 l hlt dC dI ad T o ob t a0 a1 a2 hI (by assumption) (by assumption) sz
  · skip
    have e1 : k_plan a0 a1 a2 t = 1 := by rw [k_plan, if_neg h0]
    have e0 : ¬ k_plan a0 a1 a2 t = 0 := by rw [e1]; decide
    have e2 : s_plan a0 a1 a2 t = t := if_neg e0
    have e3 : o_plan a0 a1 a2 t ob = ob := if_neg e0
    rw [e2, e3, e1]
    exact mt_A_plan_1 l hlt dC dI ad T o ob t a0 a1 a2 hI (by assumption) sz
theorem uA_step (l : Launch) (hlt : l.stackTraces = false) (dC : Nat → ClassId) (dI : Nat → Nat → Nat) (ad : Nat → Nat) (T : Nat → ClassId) (o : Nat) (ob : Nat → Int64) (t : St) (a0 : Int32) (hI : Iv t) (hE : EO t) (sz : Nat) : Met l yn_A_step (.codeWith yn_A_step cd_A_step 4 (some .int) [(0, 9, 12, 25)] :: UW) ({ frames := 7, cells := 1, slots := 6, locals := 145 } : Room) (va_Pc [.ref (ad 0), .int a0, .ref o] (Px (dC, dI) CLS (TY T) (wA ad T t o ob) sz)) (va_Qi (fun (r : Int32) (_ : Unit) => r = k_step a0 t) (Bw (dC, dI) CLS (TY T) (fun _ : Unit => wA ad T (s_step a0 t) o (o_step a0 t ob)) (va_A (wA ad T t o ob) sz)) (va_A (wA ad T t o ob) sz)) 1 6 (va_A (wA ad T t o ob) sz) := by
  by_cases h0 : x_th a0 (t.2.2.2 4)
  · skip
    have e1 : k_step a0 t = 0 := by rw [k_step, if_pos h0]
    have e2 : s_step a0 t = x_lbt (x_ss a0 t) := if_pos e1
    have e3 : o_step a0 t ob = _ := if_pos e1
    rw [e2, e3, e1]
    exact mt_A_step l hlt dC dI ad T o ob t a0 hI hE (by assumption) sz
  · skip
    have e1 : k_step a0 t = 1 := by rw [k_step, if_neg h0]
    have e0 : ¬ k_step a0 t = 0 := by rw [e1]; decide
    have e2 : s_step a0 t = t := if_neg e0
    have e3 : o_step a0 t ob = ob := if_neg e0
    rw [e2, e3, e1]
    exact mt_A_step_1 l hlt dC dI ad T o ob t a0 hI (by assumption) sz
def PT_base (RR : St → St → Prop) : Prop := ∀ t u : St, RR t u → Iv t ∧ IvM u ∧ EO t ∧ EM u ∧ HZ (y_pre (sN u 0 0)) ∧ (∀ (k : Nat) (t' : St), k < 625 → EqB t' (sN u 0 0) → HZ (y_ic k t').2.2) ∧ (∀ (i : Nat) (t' : St), i < u.2.2.2 5 → EqB t' (sN u 0 0) → HZ (y_bi i t')) ∧ ∀ a0 a1 : Int32, okV a0 a1 → ¬ (y_div a0 ∧ y_S 0 (y_pre u) = 0) → ¬ y_D a0 (y_v0 u) = 0 ∧ ¬ y_g a0 u = 0
def PT_weight (RR : St → St → Prop) : Prop := ∀ (t u : St) (a0 : Int64) (a1 : Int64) (a2 : Int64) (a3 : Int64), RR t u → nI ((m_weight a0 a1 a2 a3 u).2.2.2 0) = k_weight a0 a1 a2 a3 t ∧ (k_weight a0 a1 a2 a3 t = 0 → v_weight a0 a1 a2 a3 t = (w_weight a0 a1 a2 a3 u).toInt64) ∧ RR (s_weight a0 a1 a2 a3 t) (m_weight a0 a1 a2 a3 u)
def PT_tank (RR : St → St → Prop) : Prop := ∀ (t u : St) (a0 : Int64) (a1 : Int64) (a2 : Int64) (a3 : Int64) (a4 : Int64), RR t u → nI ((m_tank a0 a1 a2 a3 a4 u).2.2.2 0) = k_tank a0 a1 a2 a3 a4 t ∧ (k_tank a0 a1 a2 a3 a4 t = 0 → v_tank a0 a1 a2 a3 a4 t = (w_tank a0 a1 a2 a3 a4 u).toInt64) ∧ RR (s_tank a0 a1 a2 a3 a4 t) (m_tank a0 a1 a2 a3 a4 u)
def PT_filled (RR : St → St → Prop) : Prop := ∀ (t u : St) (a0 : Int32) (a1 : Int64), RR t u → nI ((m_filled a0 a1 u).2.2.2 0) = k_filled a0 a1 t ∧ (k_filled a0 a1 t = 0 → v_filled a0 a1 t = (w_filled a0 a1 u).toInt64) ∧ RR (s_filled a0 a1 t) (m_filled a0 a1 u)
def PT_hydro (RR : St → St → Prop) : Prop := ∀ (t u : St) (a0 : Int64) (a1 : Int64) (a2 : Int64), RR t u → nI ((m_hydro a0 a1 a2 u).2.2.2 0) = k_hydro a0 a1 a2 t ∧ (k_hydro a0 a1 a2 t = 0 → v_hydro a0 a1 a2 t = (w_hydro a0 a1 a2 u).toInt64) ∧ RR (s_hydro a0 a1 a2 t) (m_hydro a0 a1 a2 u)
def PT_value (RR : St → St → Prop) : Prop := ∀ (t u : St) (a0 : Int32) (a1 : Int32), RR t u → nI ((m_value a0 a1 u).2.2.2 0) = k_value a0 a1 t ∧ (k_value a0 a1 t = 0 → v_value a0 a1 t = w_value a0 a1 u) ∧ RR (s_value a0 a1 t) (m_value a0 a1 u)
def PT_shear (RR : St → St → Prop) : Prop := ∀ (t u : St) (a0 : Int64), RR t u → nI ((m_shear a0 u).2.2.2 0) = k_shear a0 t ∧ (k_shear a0 t = 0 → v_shear a0 t = w_shear a0 u) ∧ RR (s_shear a0 t) (m_shear a0 u)
def PT_bending (RR : St → St → Prop) : Prop := ∀ (t u : St) (a0 : Int64), RR t u → nI ((m_bending a0 u).2.2.2 0) = k_bending a0 t ∧ (k_bending a0 t = 0 → v_bending a0 t = w_bending a0 u) ∧ RR (s_bending a0 t) (m_bending a0 u)
def PT_limit (RR : St → St → Prop) : Prop := ∀ (t u : St) (a0 : Int32) (a1 : Int64) (a2 : Int64) (a3 : Int64), RR t u → nI ((m_limit a0 a1 a2 a3 u).2.2.2 0) = k_limit a0 a1 a2 a3 t ∧ (k_limit a0 a1 a2 a3 t = 0 → v_limit a0 a1 a2 a3 t = (w_limit a0 a1 a2 a3 u).toInt64) ∧ RR (s_limit a0 a1 a2 a3 t) (m_limit a0 a1 a2 a3 u)
def PT_fill (RR : St → St → Prop) : Prop := ∀ (t u : St) (a0 : Int32), RR t u → nI ((m_fill a0 u).2.2.2 0) = k_fill a0 t ∧ (k_fill a0 t = 0 → v_fill a0 t = w_fill a0 u) ∧ RR (s_fill a0 t) (m_fill a0 u)
def PT_plan (RR : St → St → Prop) : Prop := ∀ (t u : St) (a0 : Int32) (a1 : Int32) (a2 : Int64), (a0 = 0 ∨ a0 = 1) → RR t u → nI ((m_plan a0 a1 a2 u).2.2.2 0) = k_plan a0 a1 a2 t ∧ (k_plan a0 a1 a2 t = 0 → v_plan a0 a1 a2 t = (w_plan a0 a1 a2 u).toInt64) ∧ RR (s_plan a0 a1 a2 t) (m_plan a0 a1 a2 u)
def PT_step (RR : St → St → Prop) : Prop := ∀ (t u : St) (a0 : Int32), RR t u → nI ((m_step a0 u).2.2.2 0) = k_step a0 t ∧ (k_step a0 t = 0 → v_step a0 t = (w_step a0 u).toInt64) ∧ RR (s_step a0 t) (m_step a0 u)
def PT_hull (RR : St → St → Prop) : Prop := ∀ (t u : St) (a0 a1 : Int64), RR t u → RR (x_hullt a0 a1 t) (m_hull a0 a1 u)
def PT_check (RR : St → St → Prop) : Prop := ∀ (t u : St), RR t u → nI (x_lbn (x_gath t)) = w_check u ∧ RR (x_lbt (x_gath t)) (m_check u)
def PT_ballast (RR : St → St → Prop) : Prop := ∀ (t u : St), RR t u → (x_pump t).1 = w_ballast u ∧ RR (x_pump t).2 (m_ballast u)
def PT_broken (RR : St → St → Prop) : Prop := ∀ (t u : St), RR t u → (x_broken t).1 = w_broken u ∧ RR (x_broken t).2 (m_broken u)
def PT_count (RR : St → St → Prop) : Prop := ∀ (t u : St) (a0 : Int32), RR t u → x_cnt a0 t = w_count a0 u ∧ RR t (m_count a0 u)
