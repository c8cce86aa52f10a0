/-! Pure: values, limits -/
theorem put_ne {a b : Int64} (t : St) (hb : ¬ b = 0) : x_put a b t = sF (sF t 7 (if 0 ≤ b then a else -a)) 8 (if 0 ≤ b then b else -b) := if_neg hb
theorem ne_of_ti {b : Int64} (h : b.toInt ≠ 0) : ¬ b = 0 := fun z => h (by rw [z]; rfl)
theorem ti_ne {b : Int64} (h : ¬ b = 0) : b.toInt ≠ 0 := fun z => h (eq_ti (by rw [z]; rfl))
theorem put_7 {a b : Int64} (t : St) (hb : 0 < b.toInt) : (x_put a b t).2.2.1 7 = a ∧ (x_put a b t).2.2.1 8 = b := by
  have h0 : (0 : Int64) ≤ b := le_ti.mpr (by rw [ti_0]; omega)
  rw [put_ne t (ne_of_ti (by omega)), if_pos h0, if_pos h0]
  exact ⟨rfl, rfl⟩
abbrev WK (w : Int32) (t u : St) : Prop := FF (x_work w t) t ∧ (x_work w t).2.2.1 7 = y_U w u ∧ (x_work w t).2.2.1 8 = y_D w u ∧ (0 < (y_D w u).toInt ∧ (y_D w u).toInt ≤ 10000000000000000) ∧ bd (y_U w u) 9000000000000000000
theorem wk_put {w : Int32} {t t' u : St} (e : x_work w t = x_put (y_U0 w u) (y_D0 w u) t') (hf : FF t' t) (hz : ¬ y_D0 w u = 0) (hd : bd (y_D0 w u) 10000000000000000) (hu : bd (y_U0 w u) 9000000000000000000) : WK w t u := by
  have hz' := ti_ne hz
  have hd' := hd
  simp only [bd] at hd'
  refine ⟨by rw [e]; exact (FF.put _ _ _).tr hf, ?_, ?_, ?_, ?_⟩
  · rw [e, put_ne _ hz]; rfl
  · rw [e, put_ne _ hz]; rfl
  · unfold y_D
    by_cases h0 : 0 ≤ y_D0 w u
    · rw [if_pos h0]
      have := le_ti.mp h0; rw [ti_0] at this
      omega
    · rw [if_neg h0, ti_neg (by omega)]
      have := Int64.lt_iff_toInt_lt.mp (Int64.not_le.mp h0); rw [ti_0] at this
      omega
  · unfold y_U
    split
    · exact hu
    · exact bd_neg hu (by decide)
theorem w_cases {w : Int32} (h0 : 0 ≤ w.toInt) (h7 : w.toInt ≤ 7) : w = 0 ∨ w = 1 ∨ w = 2 ∨ w = 3 ∨ w = 4 ∨ w = 5 ∨ w = 6 ∨ w = 7 := by
  have : ∀ (k : Int32) (v : Int), k.toInt = v → w.toInt = v → w = k := fun k v e1 e2 => Int32.toInt_inj.mp (e2.trans e1.symm)
  have hh : w.toInt = 0 ∨ w.toInt = 1 ∨ w.toInt = 2 ∨ w.toInt = 3 ∨ w.toInt = 4 ∨ w.toInt = 5 ∨ w.toInt = 6 ∨ w.toInt = 7 := by omega
  rcases hh with h | h | h | h | h | h | h | h
  · exact Or.inl (this 0 0 rfl h)
  · exact Or.inr (Or.inl (this 1 1 rfl h))
  · exact Or.inr (Or.inr (Or.inl (this 2 2 rfl h)))
  · exact Or.inr (Or.inr (Or.inr (Or.inl (this 3 3 rfl h))))
  · exact Or.inr (Or.inr (Or.inr (Or.inr (Or.inl (this 4 4 rfl h)))))
  · exact Or.inr (Or.inr (Or.inr (Or.inr (Or.inr (Or.inl (this 5 5 rfl h))))))
  · exact Or.inr (Or.inr (Or.inr (Or.inr (Or.inr (Or.inr (Or.inl (this 6 6 rfl h)))))))
  · exact Or.inr (Or.inr (Or.inr (Or.inr (Or.inr (Or.inr (Or.inr (this 7 7 rfl h)))))))
theorem SS.wk {B : Int} {t u : St} (h : SS B t u) (hB : B ≤ 2100000) {w : Int32} (h0 : 0 ≤ w.toInt) (h7 : w.toInt ≤ 7) (hz : ¬ (y_div w ∧ y_S 0 u = 0)) : WK w t u := by
  have c0 := h.b0 hB
  have c1 := h.b1 hB
  have c2 := h.b2 hB
  have c3 := h.b3 hB
  have cR := h.bR
  have b2 : bd (2 : Int64) 2 := by decide
  have hD : y_div w → ¬ y_S 0 u = 0 := fun q z => hz ⟨q, z⟩
  rcases w_cases h0 h7 with rfl | rfl | rfl | rfl | rfl | rfl | rfl | rfl
  · have e1 : y_U0 0 u = y_S 0 u := rfl
    have e2 : y_D0 0 u = 1 := rfl
    refine wk_put (t' := t) ?_ (FF.rf t) (by rw [e2]; decide) (by rw [e2]; decide) (by rw [e1]; exact bd_mono c0 (by decide))
    rw [e1, e2, ← h.F2]; rfl
  · have e1 : y_U0 1 u = y_S 1 u := rfl
    have e2 : y_D0 1 u = y_S 0 u := rfl
    refine wk_put (t' := t) ?_ (FF.rf t) (by rw [e2]; exact hD (by decide)) (by rw [e2]; exact bd_mono c0 (by decide)) (by rw [e1]; exact bd_mono c1 (by decide))
    rw [e1, e2, ← h.F2, ← h.F3]; rfl
  · have e1 : y_U0 2 u = y_S 2 u := rfl
    have e2 : y_D0 2 u = y_S 0 u := rfl
    refine wk_put (t' := t) ?_ (FF.rf t) (by rw [e2]; exact hD (by decide)) (by rw [e2]; exact bd_mono c0 (by decide)) (by rw [e1]; exact bd_mono c2 (by decide))
    rw [e1, e2, ← h.F2, ← h.F4]; rfl
  · have e1 : y_U0 3 u = y_S 3 u := rfl
    have e2 : y_D0 3 u = y_S 0 u := rfl
    refine wk_put (t' := t) ?_ (FF.rf t) (by rw [e2]; exact hD (by decide)) (by rw [e2]; exact bd_mono c0 (by decide)) (by rw [e1]; exact bd_mono c3 (by decide))
    rw [e1, e2, ← h.F2, ← h.F5]; rfl
  · have e1 : y_U0 4 u = y_S 3 u + y_R u := rfl
    have e2 : y_D0 4 u = y_S 0 u := rfl
    refine wk_put (t' := t) ?_ (FF.rf t) (by rw [e2]; exact hD (by decide)) (by rw [e2]; exact bd_mono c0 (by decide)) (by rw [e1]; exact bd_mono (bd_add c3 cR (by decide)) (by decide))
    rw [e1, e2, ← h.F2, ← h.F5, ← h.F6]; rfl
  · have e1 : y_U0 5 u = y_tU 14 u (y_S 0 u) * y_S 0 u - (y_S 3 u + y_R u) * y_tD u (y_S 0 u) := rfl
    have e2 : y_D0 5 u = y_tD u (y_S 0 u) * y_S 0 u := rfl
    obtain ⟨r1, r2, r3⟩ := rd_eq h.1 13 (Or.inl rfl) (y_S 0 u)
    have r1 : x_read 13 (y_S 0 u) t = x_put (y_tU 14 u (y_S 0 u)) (y_tD u (y_S 0 u)) t := r1
    have r3 : ((y_tD u (y_S 0 u)).toInt = 1 ∧ bd (y_tU 14 u (y_S 0 u)) 10000) ∨ ((y_tD u (y_S 0 u)).toInt ≤ 5000000 ∧ bd (y_tU 14 u (y_S 0 u)) 150000000000 ∧ bd (y_S 0 u) 5000000) := r3
    have p7 := put_7 (a := y_tU 14 u (y_S 0 u)) t r2
    have fp := FF.put (y_tU 14 u (y_S 0 u)) (y_tD u (y_S 0 u)) t
    have ew : x_work 5 t = x_put (y_U0 5 u) (y_D0 5 u) (x_put (y_tU 14 u (y_S 0 u)) (y_tD u (y_S 0 u)) t) := by
      rw [e1, e2, ← r1, ← h.F2, ← h.F5, ← h.F6]
      have q7 := p7.1; have q8 := p7.2
      rw [← r1, ← h.F2] at q7 q8
      have q5 := fp.2.2.2 5 (by decide) (by decide)
      have q6 := fp.2.2.2 6 (by decide) (by decide)
      rw [← r1, ← h.F2] at q5 q6
      rw [← q7, ← q8, ← q5, ← q6]
      rfl
    have hS := hD (by decide)
    have hSz := ti_ne hS
    have hdz : ∀ {x y : Int64} {A C : Int}, bd x A → bd y C → A * C < 2 ^ 63 → 0 < x.toInt → y.toInt ≠ 0 → ¬ x * y = 0 := by
      intro x y A C hx hy hAC p1 p2 z
      have := ti_mul hx hy hAC
      rw [z, ti_0] at this
      rcases Int.mul_eq_zero.mp this.symm with q | q <;> omega
    have cc := bd_add c3 cR (by decide)
    refine wk_put ew fp ?_ ?_ ?_
    · rw [e2]
      rcases r3 with ⟨q1, q2⟩ | ⟨q1, q2, q3⟩
      · exact hdz (A := 1) ⟨by omega, by omega⟩ c0 (by decide) r2 hSz
      · exact hdz (A := 5000000) ⟨by omega, by omega⟩ q3 (by decide) r2 hSz
    · rw [e2]
      rcases r3 with ⟨q1, q2⟩ | ⟨q1, q2, q3⟩
      · exact bd_mono (bd_mul (A := 1) ⟨by omega, by omega⟩ c0 (by decide)) (by decide)
      · exact bd_mono (bd_mul (A := 5000000) ⟨by omega, by omega⟩ q3 (by decide)) (by decide)
    · rw [e1]
      rcases r3 with ⟨q1, q2⟩ | ⟨q1, q2, q3⟩
      · exact bd_mono (bd_sub (bd_mul q2 c0 (by decide)) (bd_mul cc (B := 1) ⟨by omega, by omega⟩ (by decide)) (by decide)) (by decide)
      · exact bd_mono (bd_sub (bd_mul q2 q3 (by decide)) (bd_mul cc (B := 5000000) ⟨by omega, by omega⟩ (by decide)) (by decide)) (by decide)
  · have e1 : y_U0 6 u = y_tU 15 u (y_S 0 u) := rfl
    have e2 : y_D0 6 u = y_tD u (y_S 0 u) := rfl
    obtain ⟨r1, r2, r3⟩ := rd_eq h.1 14 (Or.inr rfl) (y_S 0 u)
    have r1 : x_read 14 (y_S 0 u) t = x_put (y_tU 15 u (y_S 0 u)) (y_tD u (y_S 0 u)) t := r1
    have r3 : ((y_tD u (y_S 0 u)).toInt = 1 ∧ bd (y_tU 15 u (y_S 0 u)) 10000) ∨ ((y_tD u (y_S 0 u)).toInt ≤ 5000000 ∧ bd (y_tU 15 u (y_S 0 u)) 150000000000 ∧ bd (y_S 0 u) 5000000) := r3
    refine wk_put (t' := t) ?_ (FF.rf t) ?_ ?_ ?_
    · rw [e1, e2, ← r1, ← h.F2]; rfl
    · rw [e2]; exact ne_of_ti (by omega)
    · rw [e2]
      rcases r3 with ⟨q1, q2⟩ | ⟨q1, q2, q3⟩ <;> exact ⟨by omega, by omega⟩
    · rw [e1]
      rcases r3 with ⟨q1, q2⟩ | ⟨q1, q2, q3⟩
      · exact bd_mono q2 (by decide)
      · exact bd_mono q2 (by decide)
  · have e1 : y_U0 7 u = 2 * y_S 1 u - y_S 0 u * (u.2.2.1 0 + u.2.2.1 1) := rfl
    have e2 : y_D0 7 u = 2 * y_S 0 u := rfl
    obtain ⟨⟨g0, g1⟩, f0, f1, hl⟩ := h.1.2.2.2.2.2.1
    have hSz := ti_ne (hD (by decide))
    have e3 := ti_mul b2 c0 (by decide)
    rw [show (2 : Int64).toInt = 2 from rfl] at e3
    refine wk_put (t' := t) ?_ (FF.rf t) (by rw [e2]; exact ne_of_ti (by omega)) (by rw [e2]; exact bd_mono (bd_mul b2 c0 (by decide)) (by decide)) ?_
    · rw [e1, e2, ← h.F2, ← h.F3, g0, g1]; rfl
    · rw [e1, g0, g1]
      exact bd_mono (bd_sub (bd_mul b2 c1 (by decide)) (bd_mul c0 (bd_add f0 f1 (by decide)) (by decide)) (by decide)) (by decide)
theorem out_iff {t u : St} {n k : Nat} {a b : Int64} (h1 : u.1 17 k = t.1 15 n) (h2 : u.1 18 k = t.1 16 n) : ¬ x_alw t n a b ↔ y_out u k a b := by
  unfold x_alw y_out
  rw [h1, h2, Classical.not_and_iff_not_or_not, Int64.not_le]
theorem ne_i {w k : Int32} (h : w.toInt ≠ k.toInt) : ¬ w = k := fun z => h (by rw [z])
theorem SS.bp {B : Int} {t u : St} (h : SS B t u) (hB : B ≤ 2100000) {i : Nat} (hi : i < t.2.2.2 3) : (x_bp (i + 1) t ↔ y_bp i u) ∧ SS B (x_bt (i + 1) t) (y_bt i u) := by
  obtain ⟨⟨e0, e16, e17, e18⟩, ⟨w0, w9⟩, hx⟩ := h.1.2.2.2.1.2.2 i hi
  have hc : i + 1 ≤ t.2.2.2 5 := by rw [h.2.1]; omega
  have hsh := h.shear hB hc hx
  have hbe := h.bend hB hc hx
  unfold x_bp y_bp x_bt y_bt
  rw [e0, e16]
  generalize t.2.1 0 (i + 1) = w at *
  by_cases h7 : w.toInt ≤ 7
  · have hw7 : w ≤ 7 := Int32.le_iff_toInt_le.mpr h7
    have n8 : ¬ w = 8 := ne_i (by rw [show (8 : Int32).toInt = 8 from rfl]; omega)
    have n9 : ¬ w = 9 := ne_i (by rw [show (9 : Int32).toInt = 9 from rfl]; omega)
    simp only [if_pos hw7, if_neg n8, if_neg n9]
    by_cases hz : y_div w ∧ y_S 0 u = 0
    · have hz' : x_noans w t := ⟨by rw [h.F2]; exact hz.2, hz.1.1, hz.1.2⟩
      simp only [if_pos hz, if_pos hz']
      exact ⟨by trivial, h⟩
    · have hz' : ¬ x_noans w t := fun q => hz ⟨q.2, by rw [← h.F2]; exact q.1⟩
      simp only [if_neg hz, if_neg hz']
      obtain ⟨k1, k2, k3, k4, k5⟩ := h.wk hB w0 h7 hz
      refine ⟨?_, h.fr k1 ?_⟩
      · have a1 : x_flr (x_work w t) = y_fl (y_U w u) (y_D w u) := by unfold x_flr; rw [k2, k3, dd_fl k4.1]
        have a2 : x_cei (x_work w t) = y_ce (y_U w u) (y_D w u) := by unfold x_cei; rw [k2, k3, ce_eq k5 k4.1 k4.2]
        rw [a1, a2]
        exact out_iff (by rw [k1.1 15 (by decide)]; exact e17) (by rw [k1.1 16 (by decide)]; exact e18)
      · exact ⟨⟨fun _ _ _ _ => rfl, rfl, rfl, rfl, fun _ _ => rfl⟩, fun _ _ => rfl, fun _ _ => rfl⟩
  · have hw7 : ¬ w ≤ 7 := fun z => h7 (Int32.le_iff_toInt_le.mp z)
    simp only [if_neg hw7]
    by_cases n8 : w = 8
    · simp only [if_pos n8]
      rw [hsh]
      exact ⟨out_iff e17 e18, h⟩
    · have n9 : w = 9 := by
        apply Int32.toInt_inj.mp
        have : w.toInt ≠ 8 := fun z => n8 (Int32.toInt_inj.mp (z.trans rfl))
        rw [show (9 : Int32).toInt = 9 from rfl]; omega
      simp only [if_neg n8, if_pos n9]
      rw [hbe]
      exact ⟨out_iff e17 e18, h⟩
theorem SS.lb {B : Int} (hB : B ≤ 2100000) : ∀ (n i : Nat) {t u : St}, SS B t u → i + n ≤ t.2.2.2 3 → (x_lb n (i + 1) t).1 = (y_lb n i u).1 ∧ SS B (x_lb n (i + 1) t).2 (y_lb n i u).2
  | 0, _, _, _, h, _ => ⟨rfl, h⟩
  | n + 1, i, t, u, h, hi => by
    obtain ⟨k1, k2⟩ := h.bp hB (i := i) (by omega)
    have hn : (x_bt (i + 1) t).2.2.2 3 = t.2.2.2 3 := by rw [x_bt_N]
    rw [x_lb, y_lb]
    by_cases hp : x_bp (i + 1) t
    · rw [if_pos hp, if_pos (k1.mp hp)]
      exact ⟨rfl, k2⟩
    · rw [if_neg hp, if_neg (fun z => hp (k1.mpr z))]
      exact SS.lb hB n (i + 1) k2 (by omega)
theorem SS.lbn {B : Int} {t u : St} (h : SS B t u) (hB : B ≤ 2100000) : x_lbn t = y_bn u ∧ SS B (x_lbt t) (y_bs u) := by
  have e : u.2.2.2 4 = t.2.2.2 3 := h.1.2.2.2.1.1
  unfold x_lbn y_bn x_lbt y_bs
  rw [e]
  exact SS.lb hB (t.2.2.2 3) 0 h (by omega)
theorem SS.hz {B : Int} {t u : St} (h : SS B t u) (hB : B ≤ 2100000) : HZ u := by
  obtain ⟨eln, lp, lb⟩ := h.len
  obtain ⟨⟨g0, g1⟩, f0, f1, hl⟩ := h.1.2.2.2.2.2.1
  refine ⟨?_, ?_, fun w hw hz => ?_⟩
  · rw [g0, g1]; exact ne_of_ti (by omega)
  · rw [g0, g1]
    have bl : bd (t.2.2.1 1 - t.2.2.1 0) 20000 := ⟨by omega, lb⟩
    have e := ti_mul (a := 2) (A := 2) (by decide) bl (by decide)
    rw [show (2 : Int64).toInt = 2 from rfl] at e
    exact ne_of_ti (by omega)
  · have h7 := Int32.le_iff_toInt_le.mp hw
    rw [show (7 : Int32).toInt = 7 from rfl] at h7
    by_cases h0 : 0 ≤ w.toInt
    · obtain ⟨_, _, _, k4, _⟩ := h.wk hB h0 h7 hz
      exact ne_of_ti (by omega)
    · have hne : ∀ k : Int32, 0 ≤ k.toInt → ¬ w = k := fun k hk z => h0 (by rw [z]; exact hk)
      have e : y_D0 w u = 1 := by
        unfold y_D0 y_DA
        rw [if_pos (Int32.lt_iff_toInt_lt.mpr (by rw [show (1 : Int32).toInt = 1 from rfl]; omega)), if_neg (hne 4 (by decide)), if_neg (hne 5 (by decide)), if_neg (hne 6 (by decide)), if_neg (hne 7 (by decide))]
      unfold y_D
      rw [e]; decide
