/-! Pure: the calls that look -/
theorem pt_check : PT_check RR := by
  intro t u h
  have g := SS.gath (h.n0 0)
  obtain ⟨k1, k2⟩ := g.lbn (by decide)
  unfold w_check m_check
  rw [k1]
  exact ⟨rfl, k2.1⟩
theorem pt_step : PT_step RR := by
  intro t u a h
  have hn : u.2.2.2 5 = t.2.2.2 4 := h.2.2.2.2.1.1
  have hb := h.2.2.2.2.1.2.1
  by_cases h0 : x_th a (t.2.2.2 4)
  · have hj := th_lt h0 (by omega)
    have e1 : k_step a t = 0 := by rw [k_step, if_pos h0]
    have e2 : s_step a t = x_lbt (x_ss a t) := if_pos e1
    have q := th_n.mp h0
    have e3 : m_step a u = y_bs (y_bi a.toNatClampNeg (sN u 0 0)) := by rw [m_step, if_neg q.1, hn, if_pos q.2]
    have e4 : w_step a u = nI (y_bn (y_bi a.toNatClampNeg (sN u 0 0))) := by rw [w_step, if_neg q.1, hn, if_pos q.2]
    obtain ⟨k1, k2⟩ := (SS.ss (h.n0 0) hj).lbn (by decide)
    rw [e1, e2, e3, e4, v_step, k1]
    refine ⟨?_, fun _ => rfl, k2.1⟩
    have : (y_bs (y_bi a.toNatClampNeg (sN u 0 0))).2.2.2 = (sN u 0 0).2.2.2 := (y_lb_N _ _ _).trans (EqB.bi _ _).2.2.2.2
    rw [this]; exact nI_0
  · have e1 : k_step a t = 1 := by rw [k_step, if_neg h0]
    have e0 : ¬ k_step a t = 0 := by rw [e1]; decide
    have e2 : s_step a t = t := if_neg e0
    have e3 : m_step a u = sN u 0 1 := by
      rw [m_step]
      by_cases hz : a < 0
      · rw [if_pos hz]
      · rw [if_neg hz, hn, if_neg (fun z => h0 (th_n.mpr ⟨hz, z⟩))]
    rw [e2, e3]
    exact ⟨n_1.trans e1.symm, fun z => absurd z e0, h.n0 1⟩
theorem pt_broken : PT_broken RR := by
  intro t u h
  have n6 := x_gath_6 t
  have hn : u.2.2.2 5 = t.2.2.2 4 := h.2.2.2.2.1.1
  unfold w_broken m_broken x_broken y_broken
  rw [hn]
  exact SS.br (t.2.2.2 4) 0 (SS.gath (h.n0 0)) (by rw [n6.2.2.2.2.1]; omega)
theorem RR.c18 {t u : St} (h : RR t u) (a : Int64) : RR (sL t 18 0 a) u := by
  refine h.fr ⟨fun k _ _ h1 _ _ => sL_ne _ _ _ _ h1, fun i => by rw [sL_at, if_neg (by omega)], rfl, rfl, rfl, fun _ _ => rfl, h.2.2.2.2.2.2⟩ (EB.rf u)
theorem sg_18 {t u : St} (h : RR t u) (a : Int64) : (x_sg a t).1 18 0 = a := by
  rw [(CB.gath (h.c18 a)).2, sL_at, if_pos rfl]
theorem pre_N0 (u : St) : (y_pre (sN u 0 0)).2.2.2 0 = 0 := by rw [y_pre_2]; rfl
theorem pt_shear : PT_shear RR := by
  intro t u a h
  by_cases h0 : x_pl a
  · have e1 : k_shear a t = 0 := by rw [k_shear, if_pos h0]
    have e2 : s_shear a t = x_sg a t := if_pos e1
    have e3 : m_shear a u = y_pre (sN u 0 0) := if_pos h0
    have e4 : w_shear a u = y_shear a (y_pre (sN u 0 0)) := if_pos h0
    have g := SS.gath ((h.n0 0).c18 a)
    have e5 := sg_18 h a
    have e6 := g.shear (by decide) (c := 0) (Nat.zero_le _) (by rw [e5]; exact bd_pl h0)
    rw [e5] at e6
    rw [e1, e2, e3, e4, v_shear, pre_N0]
    exact ⟨nI_0, fun _ => e6, g.1⟩
  · have e1 : k_shear a t = 1 := by rw [k_shear, if_neg h0]
    have e0 : ¬ k_shear a t = 0 := by rw [e1]; decide
    have e2 : s_shear a t = t := if_neg e0
    have e3 : m_shear a u = sN u 0 1 := if_neg h0
    rw [e2, e3]
    exact ⟨n_1.trans e1.symm, fun z => absurd z e0, h.n0 1⟩
theorem pt_bending : PT_bending RR := by
  intro t u a h
  by_cases h0 : x_pl a
  · have e1 : k_bending a t = 0 := by rw [k_bending, if_pos h0]
    have e2 : s_bending a t = x_sg a t := if_pos e1
    have e3 : m_bending a u = y_pre (sN u 0 0) := if_pos h0
    have e4 : w_bending a u = y_bend a (y_pre (sN u 0 0)) := if_pos h0
    have g := SS.gath ((h.n0 0).c18 a)
    have e5 := sg_18 h a
    have e6 := g.bend (by decide) (c := 0) (Nat.zero_le _) (by rw [e5]; exact bd_pl h0)
    rw [e5] at e6
    rw [e1, e2, e3, e4, v_bending, pre_N0]
    exact ⟨nI_0, fun _ => e6, g.1⟩
  · have e1 : k_bending a t = 1 := by rw [k_bending, if_neg h0]
    have e0 : ¬ k_bending a t = 0 := by rw [e1]; decide
    have e2 : s_bending a t = t := if_neg e0
    have e3 : m_bending a u = sN u 0 1 := if_neg h0
    rw [e2, e3]
    exact ⟨n_1.trans e1.symm, fun z => absurd z e0, h.n0 1⟩
theorem okV_ti {a b : Int32} (h : okV a b) : (0 ≤ a.toInt ∧ a.toInt ≤ 7) ∧ 0 ≤ b.toInt ∧ b.toInt ≤ 2 := by
  obtain ⟨h1, h2, h3, h4⟩ := h
  rw [Int32.lt_iff_toInt_lt, show (0 : Int32).toInt = 0 from rfl] at h1 h3
  rw [Int32.lt_iff_toInt_lt, show (7 : Int32).toInt = 7 from rfl] at h2
  rw [Int32.le_iff_toInt_le, show (2 : Int32).toInt = 2 from rfl] at h4
  omega
theorem red_eq {t : St} {U D g : Int64} (h7 : t.2.2.1 7 = U) (h8 : t.2.2.1 8 = D) (hg : x_gcd 1000 (x_abs U) D = g) (h1 : 1 ≤ g.toInt) : (x_red t).2.2.1 7 = U / g ∧ (x_red t).2.2.1 8 = D / g ∧ FF (x_red t) t := by
  unfold x_red
  rw [h7, h8, hg]
  by_cases hz : g ≤ 1
  · have e : g = 1 := eq_ti (by have := le_ti.mp hz; rw [show (1 : Int64).toInt = 1 from rfl] at this ⊢; omega)
    rw [if_pos hz, e, h7, h8]
    have d1 : ∀ x : Int64, x / 1 = x := fun x => by
      apply eq_ti
      rw [ti_div (by decide), show (1 : Int64).toInt = 1 from rfl, Int.tdiv_one]
    exact ⟨(d1 U).symm, (d1 D).symm, FF.rf t⟩
  · rw [if_neg hz]
    exact ⟨rfl, rfl, (FF.sF 8 _ (Or.inr rfl)).tr (FF.sF 7 _ (Or.inl rfl))⟩
theorem pre_0 (u : St) : y_pre (sN u 0 0) = y_v0 u := by
  have hw : ∀ (n i : Nat) (u : St), y_pw n i (sN u 0 0) = sN (y_pw n i u) 0 0 := by
    intro n
    induction n with
    | zero => intro i u; rfl
    | succ n ih => intro i u; rw [y_pw, y_pw, ← ih]; rfl
  have ht : ∀ (n i : Nat) (u : St), y_pt n i (sN u 0 0) = sN (y_pt n i u) 0 0 := by
    intro n
    induction n with
    | zero => intro i u; rfl
    | succ n ih => intro i u; rw [y_pt, y_pt, ← ih]; rfl
  show y_pt ((sN u 0 0).2.2.2 2) 0 (y_pw ((sN u 0 0).2.2.2 1) 0 (sN u 0 0)) = sN (y_pt (u.2.2.2 2) 0 (y_pw (u.2.2.2 1) 0 u)) 0 0
  rw [hw, ht]; rfl
theorem val_ok {t u : St} (h : RR t u) {a b : Int32} (h0 : okV a b) (hz : ¬ (y_div a ∧ y_S 0 (y_pre u) = 0)) : WK a (x_gath t) (y_v0 u) ∧ (x_gcd 1000 (x_abs (y_U a (y_v0 u))) (y_D a (y_v0 u)) = y_g a u ∧ 1 ≤ (y_g a u).toInt) := by
  have g := SS.gath (h.n0 0)
  rw [pre_0] at g
  obtain ⟨⟨a0, a7⟩, -⟩ := okV_ti h0
  have k := g.wk (by decide) a0 a7 hz
  exact ⟨k, g_eq k.2.2.2.2 (by decide) k.2.2.2.1.1⟩
theorem pt_value : PT_value RR := by
  intro t u a b h
  have g := SS.gath (h.n0 0)
  rw [pre_0] at g
  have e2' : (x_gath t).2.2.1 2 = y_S 0 (y_pre u) := g.F2
  by_cases h0 : okV a b
  · by_cases hz : y_div a ∧ y_S 0 (y_pre u) = 0
    · have hz' : x_noans a (x_gath t) := ⟨by rw [e2']; exact hz.2, hz.1⟩
      have e1 : k_value a b t = 2 := by rw [k_value, if_pos h0, if_pos hz']
      have e0 : ¬ k_value a b t = 0 := by rw [e1]; decide
      have e2 : s_value a b t = x_gath t := (if_neg e0).trans (if_pos e1)
      have e3 : m_value a b u = sN (y_pre u) 0 2 := by rw [m_value, if_pos h0, if_pos hz]
      rw [e2, e3]
      exact ⟨n_2.trans e1.symm, fun z => absurd z e0, (SS.gath h).1.n0 2⟩
    · have hz' : ¬ x_noans a (x_gath t) := fun q => hz ⟨q.2, by rw [← e2']; exact q.1⟩
      have e1 : k_value a b t = 0 := by rw [k_value, if_pos h0, if_neg hz']
      have e2 : s_value a b t = x_vt a b t := if_pos e1
      have e3 : m_value a b u = y_rk a (y_v0 u) := by rw [m_value, if_pos h0, if_neg hz]
      have e4 : w_value a b u = y_vv a b u := by rw [w_value, if_pos h0, if_neg hz]
      obtain ⟨⟨k1, k2, k3, k4, k5⟩, g1, g2⟩ := val_ok h h0 hz
      obtain ⟨r1, r2, r3⟩ := red_eq k2 k3 g1 g2
      rw [e1, e2, e3, e4, v_value]
      refine ⟨nI_0, fun _ => ?_, ?_⟩
      · unfold x_vv y_vv
        by_cases b0 : b = 0
        · rw [if_pos b0, if_pos b0]
          unfold x_flr
          rw [k2, k3, dd_fl k4.1]
        · rw [if_neg b0, if_neg b0, r1, r2]
      · have ag : Ag (y_rk a (y_v0 u)) (y_v0 u) := ⟨⟨fun _ _ _ _ => rfl, rfl, rfl, rfl, fun _ _ => rfl⟩, fun _ _ => rfl, fun _ _ => rfl⟩
        unfold x_vt
        by_cases b0 : b = 0
        · rw [if_pos b0]; exact (g.fr k1 ag).1
        · rw [if_neg b0]; exact (g.fr (r3.tr k1) ag).1
  · have e1 : k_value a b t = 1 := by rw [k_value, if_neg h0]
    have e0 : ¬ k_value a b t = 0 := by rw [e1]; decide
    have e2 : s_value a b t = t := (if_neg e0).trans (if_neg (by rw [e1]; decide))
    have e3 : m_value a b u = sN (y_pre u) 0 1 := if_neg h0
    rw [e2, e3]
    exact ⟨n_1.trans e1.symm, fun z => absurd z e0, (h.fr (CB.rf h) (EqB.pre u).eb).n0 1⟩
