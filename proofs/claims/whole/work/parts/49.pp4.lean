/-! Pure: the calls that only write -/
theorem n_1 : nI 1 = 1 := by decide
theorem n_2 : nI 2 = 2 := by decide
theorem n_3 : nI 3 = 3 := by decide
theorem pt_weight : PT_weight RR := by
  intro t u a0 a1 a2 a3 h
  have hn : u.2.2.2 1 = t.2.2.2 0 := h.1.1
  have hb : t.2.2.2 0 ≤ 40 := h.1.2.1
  by_cases h0 : okW a0 a1 a2 a3
  · by_cases h1 : t.2.2.2 0 < 40
    · have e1 : k_weight a0 a1 a2 a3 t = 0 := by rw [k_weight, if_pos h0, if_pos h1]
      have e2 : s_weight a0 a1 a2 a3 t = x_wapp a0 a1 a2 a3 t := if_pos e1
      have e3 : m_weight a0 a1 a2 a3 u = yw a0 a1 a2 a3 u := by rw [m_weight, if_pos h0, if_neg (by omega)]
      have e4 : w_weight a0 a1 a2 a3 u = nI (u.2.2.2 1) := by rw [w_weight, if_pos h0, if_neg (by omega)]
      rw [e1, e2, e3, e4, v_weight, hn]
      refine ⟨nI_0, fun _ => rfl, ?_⟩
      exact ⟨h.1.app h1 h0, h.2.1, h.2.2.1, h.2.2.2.1, h.2.2.2.2.1.mono (Nat.le_succ _) (Nat.le_refl _), h.2.2.2.2.2.1, h.2.2.2.2.2.2⟩
    · have e1 : k_weight a0 a1 a2 a3 t = 2 := by rw [k_weight, if_pos h0, if_neg h1]
      have e0 : ¬ k_weight a0 a1 a2 a3 t = 0 := by rw [e1]; decide
      have e2 : s_weight a0 a1 a2 a3 t = t := if_neg e0
      have e3 : m_weight a0 a1 a2 a3 u = sN u 0 2 := by rw [m_weight, if_pos h0, if_pos (by omega)]
      rw [e2, e3]
      exact ⟨n_2.trans e1.symm, fun z => absurd z e0, h.n0 2⟩
  · have e1 : k_weight a0 a1 a2 a3 t = 1 := by rw [k_weight, if_neg h0]
    have e0 : ¬ k_weight a0 a1 a2 a3 t = 0 := by rw [e1]; decide
    have e2 : s_weight a0 a1 a2 a3 t = t := if_neg e0
    have e3 : m_weight a0 a1 a2 a3 u = sN u 0 1 := by rw [m_weight, if_neg h0]
    rw [e2, e3]
    exact ⟨n_1.trans e1.symm, fun z => absurd z e0, h.n0 1⟩
theorem pt_tank : PT_tank RR := by
  intro t u a0 a1 a2 a3 a4 h
  have hn : u.2.2.2 2 = t.2.2.2 1 := h.2.1.1
  have hb : t.2.2.2 1 ≤ 4 := h.2.1.2.1
  by_cases h0 : okT a0 a1 a2 a3 a4
  · by_cases h1 : t.2.2.2 1 < 4
    · have e1 : k_tank a0 a1 a2 a3 a4 t = 0 := by rw [k_tank, if_pos h0, if_pos h1]
      have e2 : s_tank a0 a1 a2 a3 a4 t = x_tapp a0 a1 a2 a3 a4 t := if_pos e1
      have e3 : m_tank a0 a1 a2 a3 a4 u = yt a0 a1 a2 a3 a4 u := by rw [m_tank, if_pos h0, if_neg (by omega)]
      have e4 : w_tank a0 a1 a2 a3 a4 u = nI (u.2.2.2 2) := by rw [w_tank, if_pos h0, if_neg (by omega)]
      rw [e1, e2, e3, e4, v_tank, hn]
      refine ⟨nI_0, fun _ => rfl, ?_⟩
      exact ⟨h.1, h.2.1.app h1 h0, h.2.2.1, h.2.2.2.1, h.2.2.2.2.1.mono (Nat.le_refl _) (Nat.le_succ _), h.2.2.2.2.2.1, h.2.2.2.2.2.2⟩
    · have e1 : k_tank a0 a1 a2 a3 a4 t = 2 := by rw [k_tank, if_pos h0, if_neg h1]
      have e0 : ¬ k_tank a0 a1 a2 a3 a4 t = 0 := by rw [e1]; decide
      have e2 : s_tank a0 a1 a2 a3 a4 t = t := if_neg e0
      have e3 : m_tank a0 a1 a2 a3 a4 u = sN u 0 2 := by rw [m_tank, if_pos h0, if_pos (by omega)]
      rw [e2, e3]
      exact ⟨n_2.trans e1.symm, fun z => absurd z e0, h.n0 2⟩
  · have e1 : k_tank a0 a1 a2 a3 a4 t = 1 := by rw [k_tank, if_neg h0]
    have e0 : ¬ k_tank a0 a1 a2 a3 a4 t = 0 := by rw [e1]; decide
    have e2 : s_tank a0 a1 a2 a3 a4 t = t := if_neg e0
    have e3 : m_tank a0 a1 a2 a3 a4 u = sN u 0 1 := by rw [m_tank, if_neg h0]
    rw [e2, e3]
    exact ⟨n_1.trans e1.symm, fun z => absurd z e0, h.n0 1⟩
theorem th_lt {a : Int32} {n : Nat} (h : x_th a n) (hn : n < 2 ^ 31) : a.toNatClampNeg < n := cl_lt h.1 h.2 hn
theorem pt_filled : PT_filled RR := by
  intro t u a0 a1 h
  have hn : u.2.2.2 2 = t.2.2.2 1 := h.2.1.1
  have hb : t.2.2.2 1 ≤ 4 := h.2.1.2.1
  by_cases h0 : x_th a0 (t.2.2.2 1)
  · have hj := th_lt h0 (by omega)
    have e1 : k_filled a0 a1 t = 0 := by rw [k_filled, if_pos h0]
    have e2 : s_filled a0 a1 t = _ := if_pos e1
    have e4' : u.1 4 a0.toNatClampNeg = t.1 4 a0.toNatClampNeg := (h.2.1.2.2.1 _ hj).1.1
    have h0' : x_th a0 (u.2.2.2 2) := by rw [hn]; exact h0
    have e3 : m_filled a0 a1 u = _ := if_pos h0'
    have e4 : w_filled a0 a1 u = _ := if_pos h0'
    rw [e1, e2, e3, e4, v_filled, e4']
    by_cases h1 : x_in a1 0 (t.1 4 a0.toNatClampNeg)
    · rw [if_pos h1, if_pos h1, if_pos h1]
      refine ⟨nI_0, fun _ => rfl, ?_⟩
      exact ⟨h.1, h.2.1.fill hj h1, h.2.2.1, h.2.2.2.1, h.2.2.2.2.1, h.2.2.2.2.2.1, h.2.2.2.2.2.2⟩
    · rw [if_neg h1, if_neg h1, if_neg h1]
      exact ⟨nI_0, fun _ => rfl, h.n0 0⟩
  · have e1 : k_filled a0 a1 t = 1 := by rw [k_filled, if_neg h0]
    have e0 : ¬ k_filled a0 a1 t = 0 := by rw [e1]; decide
    have e2 : s_filled a0 a1 t = t := if_neg e0
    have e3 : m_filled a0 a1 u = sN u 0 1 := by rw [m_filled, if_neg (by rw [hn]; exact h0)]
    rw [e2, e3]
    exact ⟨n_1.trans e1.symm, fun z => absurd z e0, h.n0 1⟩
theorem ok_H {t u : St} (h : RR t u) (a b c : Int64) : okHx a b c t ↔ okH a b c u := by
  obtain ⟨e, -, g, -⟩ := h.2.2.1
  unfold okHx okH x_last
  rw [e]
  by_cases hz : t.2.2.2 2 = 0
  · rw [if_pos hz]
    constructor
    · intro ⟨h1, h2, h3, _⟩; exact ⟨h1, h2, h3, fun z => absurd hz z⟩
    · intro ⟨h1, h2, h3, _⟩
      refine ⟨h1, h2, h3, ?_⟩
      have := in_ti h1
      rw [show (1 : Int64).toInt = 1 from rfl] at this
      rw [Int64.lt_iff_toInt_lt, ti_0]; omega
  · rw [if_neg hz, (g (t.2.2.2 2 - 1) (by omega)).1.1]
    constructor
    · intro ⟨h1, h2, h3, h4⟩; exact ⟨h1, h2, h3, fun _ => h4⟩
    · intro ⟨h1, h2, h3, h4⟩; exact ⟨h1, h2, h3, h4 hz⟩
theorem pt_hydro : PT_hydro RR := by
  intro t u a0 a1 a2 h
  have hn : u.2.2.2 3 = t.2.2.2 2 := h.2.2.1.1
  have hb : t.2.2.2 2 ≤ 12 := h.2.2.1.2.1
  have hok := ok_H h a0 a1 a2
  by_cases h0 : okHx a0 a1 a2 t
  · by_cases h1 : t.2.2.2 2 < 12
    · have e1 : k_hydro a0 a1 a2 t = 0 := by rw [k_hydro, if_pos h0, if_pos h1]
      have e2 : s_hydro a0 a1 a2 t = x_bapp a0 a1 a2 t := if_pos e1
      have e3 : m_hydro a0 a1 a2 u = yh a0 a1 a2 u := by rw [m_hydro, if_pos (hok.mp h0), if_neg (by omega)]
      have e4 : w_hydro a0 a1 a2 u = nI (u.2.2.2 3 + 1) := by rw [w_hydro, if_pos (hok.mp h0), if_neg (by omega)]
      rw [e1, e2, e3, e4, v_hydro, hn]
      refine ⟨nI_0, fun _ => rfl, ?_⟩
      exact ⟨h.1, h.2.1, h.2.2.1.app h1 h0.1 h0.2.1 h0.2.2.1 (fun hz => by have := h0.2.2.2; rw [x_last, if_neg hz] at this; exact this), h.2.2.2.1, h.2.2.2.2.1, h.2.2.2.2.2.1, h.2.2.2.2.2.2⟩
    · have e1 : k_hydro a0 a1 a2 t = 2 := by rw [k_hydro, if_pos h0, if_neg h1]
      have e0 : ¬ k_hydro a0 a1 a2 t = 0 := by rw [e1]; decide
      have e2 : s_hydro a0 a1 a2 t = t := if_neg e0
      have e3 : m_hydro a0 a1 a2 u = sN u 0 2 := by rw [m_hydro, if_pos (hok.mp h0), if_pos (by omega)]
      rw [e2, e3]
      exact ⟨n_2.trans e1.symm, fun z => absurd z e0, h.n0 2⟩
  · have e1 : k_hydro a0 a1 a2 t = 1 := by rw [k_hydro, if_neg h0]
    have e0 : ¬ k_hydro a0 a1 a2 t = 0 := by rw [e1]; decide
    have e2 : s_hydro a0 a1 a2 t = t := if_neg e0
    have e3 : m_hydro a0 a1 a2 u = sN u 0 1 := by rw [m_hydro, if_neg (fun z => h0 (hok.mpr z))]
    rw [e2, e3]
    exact ⟨n_1.trans e1.symm, fun z => absurd z e0, h.n0 1⟩
theorem ok_L (w : Int32) (x a b : Int64) : okLx w x a b ↔ okL w x a b := by
  unfold okLx okL
  rw [xi_09]
  constructor
  · intro ⟨h1, h2, h3, h4, h5⟩
    refine ⟨h1.1, h1.2, h2, ⟨Int64.not_lt.mp h3, ?_⟩, ⟨?_, Int64.not_lt.mp h4⟩, h5⟩
    · exact Int64.le_trans (Int64.not_lt.mp h2) (Int64.not_lt.mp h4)
    · exact Int64.le_trans (Int64.not_lt.mp h3) (Int64.not_lt.mp h2)
  · intro ⟨h1, h1', h2, h3, h4, h5⟩
    exact ⟨⟨h1, h1'⟩, h2, Int64.not_lt.mpr h3.1, Int64.not_lt.mpr h4.2, h5⟩
theorem pt_limit : PT_limit RR := by
  intro t u a0 a1 a2 a3 h
  have hn : u.2.2.2 4 = t.2.2.2 3 := h.2.2.2.1.1
  have hb : t.2.2.2 3 ≤ 10 := h.2.2.2.1.2.1
  have hok := ok_L a0 a1 a2 a3
  by_cases h0 : okLx a0 a1 a2 a3
  · by_cases h1 : t.2.2.2 3 < 10
    · have e1 : k_limit a0 a1 a2 a3 t = 0 := by rw [k_limit, if_pos h0, if_pos h1]
      have e2 : s_limit a0 a1 a2 a3 t = _ := if_pos e1
      have e3 : m_limit a0 a1 a2 a3 u = yl a0 a1 a2 a3 u := by rw [m_limit, if_pos (hok.mp h0), if_neg (by omega)]
      have e4 : w_limit a0 a1 a2 a3 u = nI (u.2.2.2 4 + 1) := by rw [w_limit, if_pos (hok.mp h0), if_neg (by omega)]
      rw [e1, e2, e3, e4, v_limit, hn]
      refine ⟨nI_0, fun _ => rfl, ?_⟩
      exact ⟨h.1, h.2.1, h.2.2.1, h.2.2.2.1.app h1 (hok.mp h0), h.2.2.2.2.1, h.2.2.2.2.2.1, h.2.2.2.2.2.2⟩
    · have e1 : k_limit a0 a1 a2 a3 t = 2 := by rw [k_limit, if_pos h0, if_neg h1]
      have e0 : ¬ k_limit a0 a1 a2 a3 t = 0 := by rw [e1]; decide
      have e2 : s_limit a0 a1 a2 a3 t = t := if_neg e0
      have e3 : m_limit a0 a1 a2 a3 u = sN u 0 2 := by rw [m_limit, if_pos (hok.mp h0), if_pos (by omega)]
      rw [e2, e3]
      exact ⟨n_2.trans e1.symm, fun z => absurd z e0, h.n0 2⟩
  · have e1 : k_limit a0 a1 a2 a3 t = 1 := by rw [k_limit, if_neg h0]
    have e0 : ¬ k_limit a0 a1 a2 a3 t = 0 := by rw [e1]; decide
    have e2 : s_limit a0 a1 a2 a3 t = t := if_neg e0
    have e3 : m_limit a0 a1 a2 a3 u = sN u 0 1 := by rw [m_limit, if_neg (fun z => h0 (hok.mpr z))]
    rw [e2, e3]
    exact ⟨n_1.trans e1.symm, fun z => absurd z e0, h.n0 1⟩
theorem pt_hull : PT_hull RR := by
  intro t u a b h
  unfold x_hullt m_hull
  by_cases h0 : x_hullp a b
  · rw [if_pos h0, if_pos h0]
    exact ⟨h.1, h.2.1, h.2.2.1, h.2.2.2.1, h.2.2.2.2.1, ⟨⟨rfl, rfl⟩, bd_pl h0.1, bd_pl h0.2.1, Int64.lt_iff_toInt_lt.mp h0.2.2⟩, h.2.2.2.2.2.2⟩
  · rw [if_neg h0, if_neg h0]
    exact h.n0 0
theorem th_n {a : Int32} {n : Nat} : x_th a n ↔ ¬ a < 0 ∧ a < nI n := by
  unfold x_th; rw [Int32.not_le]
theorem nar_b {a : Int32} (h : a = 0 ∨ a = 1) : vp_nar .boolean a = a := by rcases h with rfl | rfl <;> decide
theorem pt_plan : PT_plan RR := by
  intro t u a0 a1 a2 ha h
  have hn0 : u.2.2.2 1 = t.2.2.2 0 := h.1.1
  have hb0 : t.2.2.2 0 ≤ 40 := h.1.2.1
  have hn1 : u.2.2.2 2 = t.2.2.2 1 := h.2.1.1
  have hb1 : t.2.2.2 1 ≤ 4 := h.2.1.2.1
  have hn : u.2.2.2 5 = t.2.2.2 4 := h.2.2.2.2.1.1
  have hb : t.2.2.2 4 ≤ 20 := h.2.2.2.2.1.2.1
  -- the reference's tree, read as the class's
  have key : ∀ {α : Type} (f1 f2 f3 s : α), y_pl3 a0 a1 a2 u f1 f2 f3 s = if x_th a1 (x_pn a0 t) then (@ite _ (x_pk a0 a1 a2 t) (Classical.propDecidable _) (if t.2.2.2 4 < 20 then s else f3) f2) else f1 := by
    intro α f1 f2 f3 s
    unfold y_pl3 x_pk x_pn
    rw [hn0, hn1, hn]
    by_cases h1 : a1 < 0
    · rw [if_pos h1, if_neg (fun z => z.1 h1)]
    · rw [if_neg h1]
      by_cases h2 : a0 = 0
      · simp only [if_pos h2]
        by_cases h3 : a1 < nI (t.2.2.2 0)
        · rw [if_pos h3, if_pos (th_n.mpr ⟨h1, h3⟩)]
          by_cases h4 : x_in a2 (-100000) 100000
          · rw [if_pos h4, if_pos h4]
            by_cases h5 : t.2.2.2 4 = 20
            · rw [if_pos h5, if_neg (by omega)]
            · rw [if_neg h5, if_pos (by omega)]
          · rw [if_neg h4, if_neg h4]
        · rw [if_neg h3, if_neg (fun z => h3 (th_n.mp z).2)]
      · simp only [if_neg h2]
        by_cases h3 : a1 < nI (t.2.2.2 1)
        · have hj := th_lt (th_n.mpr ⟨h1, h3⟩) (by omega)
          rw [if_pos h3, if_pos (th_n.mpr ⟨h1, h3⟩), (h.2.1.2.2.1 _ hj).1.1]
          by_cases h4 : x_in a2 0 (t.1 4 a1.toNatClampNeg)
          · rw [if_pos h4, if_pos h4]
            by_cases h5 : t.2.2.2 4 = 20
            · rw [if_pos h5, if_neg (by omega)]
            · rw [if_neg h5, if_pos (by omega)]
          · rw [if_neg h4, if_neg h4]
        · rw [if_neg h3, if_neg (fun z => h3 (th_n.mp z).2)]
  have em : m_plan a0 a1 a2 u = _ := key (sN u 0 1) (sN u 0 2) (sN u 0 3) (yp a0 a1 a2 u)
  have ew : w_plan a0 a1 a2 u = _ := key 0 0 0 (nI (u.2.2.2 5))
  by_cases h0 : x_th a1 (x_pn a0 t)
  · rw [if_pos h0] at em ew
    by_cases h1 : x_pk a0 a1 a2 t
    · rw [if_pos h1] at em ew
      by_cases h2 : t.2.2.2 4 < 20
      · rw [if_pos h2] at em ew
        have e1 : k_plan a0 a1 a2 t = 0 := by rw [k_plan, if_pos h0, if_pos h1, if_pos h2]
        have e2 : s_plan a0 a1 a2 t = x_eapp a0 a1 a2 t := if_pos e1
        rw [e1, e2, em, ew, v_plan, hn]
        refine ⟨nI_0, fun _ => rfl, ?_⟩
        have hpn : x_pn a0 t < 2 ^ 31 := by unfold x_pn; split <;> omega
        have hj := th_lt h0 hpn
        refine ⟨h.1, h.2.1, h.2.2.1, h.2.2.2.1, h.2.2.2.2.1.app h2 (a := vp_nar .boolean a0) (cl_eq h0.1) ?_, h.2.2.2.2.2.1, h.2.2.2.2.2.2⟩
        rw [nar_b ha]
        unfold x_pn at hj
        unfold x_pk at h1
        by_cases hz : a0 = 0
        · rw [if_pos hz] at hj h1
          exact Or.inl ⟨hz, hj, bd_in h1 (by decide) (by decide)⟩
        · rw [if_neg hz] at hj h1
          have m := in_ti h1
          rw [ti_0] at m
          have m4 := (h.2.1.2.2.1 _ hj).2.1.2
          exact Or.inr ⟨hz, hj, m.1, by omega⟩
      · rw [if_neg h2] at em ew
        have e1 : k_plan a0 a1 a2 t = 3 := by rw [k_plan, if_pos h0, if_pos h1, if_neg h2]
        have e0 : ¬ k_plan a0 a1 a2 t = 0 := by rw [e1]; decide
        have e2 : s_plan a0 a1 a2 t = t := if_neg e0
        rw [e2, em]
        exact ⟨n_3.trans e1.symm, fun z => absurd z e0, h.n0 3⟩
    · rw [if_neg h1] at em ew
      have e1 : k_plan a0 a1 a2 t = 2 := by rw [k_plan, if_pos h0, if_neg h1]
      have e0 : ¬ k_plan a0 a1 a2 t = 0 := by rw [e1]; decide
      have e2 : s_plan a0 a1 a2 t = t := if_neg e0
      rw [e2, em]
      exact ⟨n_2.trans e1.symm, fun z => absurd z e0, h.n0 2⟩
  · rw [if_neg h0] at em ew
    have e1 : k_plan a0 a1 a2 t = 1 := by rw [k_plan, if_neg h0]
    have e0 : ¬ k_plan a0 a1 a2 t = 0 := by rw [e1]; decide
    have e2 : s_plan a0 a1 a2 t = t := if_neg e0
    rw [e2, em]
    exact ⟨n_1.trans e1.symm, fun z => absurd z e0, h.n0 1⟩
theorem cs_eq {t u : St} : ∀ (n i a : Nat), (∀ j, i ≤ j → j < i + n → u.1 9 j = t.1 9 j ∧ u.1 4 j = t.1 4 j) → x_cs t n i a = y_cs u.1 n i a
  | 0, _, _, _ => rfl
  | n + 1, i, a, h => by
    rw [x_cs, y_cs, (h i (by omega) (by omega)).1, (h i (by omega) (by omega)).2]
    have : (if x_slack t i (t.1 9 i) then a + 1 else a) = a + (if t.1 9 i ≤ 0 then 0 else if t.1 4 i ≤ t.1 9 i then 0 else 1) := by
      by_cases h1 : t.1 9 i ≤ 0
      · rw [if_pos h1, if_neg (fun z => absurd h1 (Int64.not_le.mpr z.1))]; rfl
      · rw [if_neg h1]
        by_cases h2 : t.1 4 i ≤ t.1 9 i
        · rw [if_pos h2, if_neg (fun z => absurd h2 (Int64.not_le.mpr z.2))]; rfl
        · rw [if_neg h2, if_pos ⟨Int64.not_le.mp h1, Int64.not_le.mp h2⟩]
    rw [this]
    exact cs_eq n (i + 1) _ (fun j h1 h2 => h j (by omega) (by omega))
theorem pt_count : PT_count RR := by
  intro t u a h
  refine ⟨?_, h.n0 0⟩
  unfold x_cnt w_count y_cnt
  rw [h.1.1, h.2.1.1, h.2.2.1.1, h.2.2.2.1.1, h.2.2.2.2.1.1, cs_eq (t := t) (u := u) (t.2.2.2 1) 0 0 (fun j _ hj => ⟨(h.2.1.2.2.1 j (by omega)).1.2.2.2.2.2, (h.2.1.2.2.1 j (by omega)).1.1⟩)]
