/-! Pure: shear, bending -/
theorem le_ti {a b : Int64} : a ≤ b ↔ a.toInt ≤ b.toInt := Int64.le_iff_toInt_le
theorem fl_mul {k d : Int64} {A : Int} (hk : bd k A) (hd : 0 < d.toInt) (hd2 : d.toInt ≤ 20000) (hA : A * 20000 < 2 ^ 63) : y_fl (k * d) d = k := by
  apply eq_ti
  rw [fl_ti hd, ti_mul hk (B := 20000) ⟨by omega, hd2⟩ hA, Int.mul_ediv_cancel _ (by omega)]
theorem SS.len {B : Int} {t u : St} (h : SS B t u) : (t.2.2.1 1 - t.2.2.1 0).toInt = (t.2.2.1 1).toInt - (t.2.2.1 0).toInt ∧ 0 < (t.2.2.1 1 - t.2.2.1 0).toInt ∧ (t.2.2.1 1 - t.2.2.1 0).toInt ≤ 20000 := by
  obtain ⟨_, b0, b1, hl⟩ := h.1.2.2.2.2.2.1
  have e := ti_sub b1 b0 (by decide)
  simp only [bd] at b0 b1
  omega
theorem SS.shear {B : Int} {t u : St} (h : SS B t u) (hB : B ≤ 2100000) {c : Nat} (hc : c ≤ t.2.2.2 5) (hx : bd (t.1 18 c) 10000) : x_shear t c = y_shear (t.1 18 c) u := by
  obtain ⟨eln, lp, lb⟩ := h.len
  obtain ⟨⟨g0, g1⟩, b0, b1, hl⟩ := h.1.2.2.2.2.2.1
  unfold x_shear y_shear
  rw [h.L19 hc, h.F2, g0, g1]
  have bk := h.bkg hB (t.1 18 c)
  have bD := h.b0 hB
  generalize y_kg (t.1 18 c) u = k at *
  generalize y_S 0 u = D at *
  generalize t.1 18 c = x at *
  generalize t.2.2.1 0 = l at *
  generalize t.2.2.1 1 = r at *
  have bl : bd (r - l) 20000 := ⟨by omega, lb⟩
  by_cases h1 : x ≤ l
  · rw [if_pos h1]
    have e0 : (if l ≤ x then (if x ≤ r then x - l else r - l) else 0) = 0 := by
      by_cases h2 : l ≤ x
      · have e : x = l := Int64.le_antisymm h1 h2
        subst e
        have h3 : x ≤ r := le_ti.mpr (by omega)
        rw [if_pos h2, if_pos h3]; grind
      · rw [if_neg h2]
    rw [e0, Int64.mul_zero, show k * (r - l) - 0 = k * (r - l) by grind, fl_mul bk lp lb (by decide)]
  · rw [if_neg h1]
    have h1' := Int64.lt_iff_toInt_lt.mp (Int64.not_le.mp h1)
    have hlx : l ≤ x := le_ti.mpr (by omega)
    rw [if_pos hlx]
    by_cases h2 : r ≤ x
    · rw [if_pos h2]
      have e0 : (if x ≤ r then x - l else r - l) = r - l := by
        by_cases h3 : x ≤ r
        · rw [if_pos h3, Int64.le_antisymm h3 h2]
        · rw [if_neg h3]
      rw [e0, show k * (r - l) - D * (r - l) = (k - D) * (r - l) by grind, fl_mul (bd_sub bk bD (by decide)) lp lb (by decide)]
    · rw [if_neg h2]
      have h3 : x ≤ r := Int64.le_of_lt (Int64.not_le.mp h2)
      rw [if_pos h3, dd_fl lp]
theorem SS.bend {B : Int} {t u : St} (h : SS B t u) (hB : B ≤ 2100000) {c : Nat} (hc : c ≤ t.2.2.2 5) (hx : bd (t.1 18 c) 10000) : x_bend t c = y_bend (t.1 18 c) u := by
  obtain ⟨eln, lp, lb⟩ := h.len
  obtain ⟨⟨g0, g1⟩, b0, b1, hl⟩ := h.1.2.2.2.2.2.1
  unfold x_bend y_bend
  rw [h.L20 hc, h.F2, g0, g1]
  have bk := h.btn hB hx
  have bD := h.b0 hB
  generalize y_tn (t.1 18 c) u = k at *
  generalize y_S 0 u = D at *
  generalize t.1 18 c = x at *
  generalize t.2.2.1 0 = l at *
  generalize t.2.2.1 1 = r at *
  have bl : bd (r - l) 20000 := ⟨by omega, lb⟩
  have b2 : bd (2 : Int64) 2 := by decide
  have e2l : (2 * (r - l)).toInt = 2 * (r - l).toInt := ti_mul b2 bl (by decide)
  have p2l : 0 < (2 * (r - l)).toInt := by omega
  by_cases h1 : x ≤ l
  · rw [if_pos h1, if_pos h1]
  · rw [if_neg h1, if_neg h1]
    by_cases h2 : r ≤ x
    · rw [if_pos h2]
      by_cases h3 : x ≤ r
      · have e : x = r := Int64.le_antisymm h3 h2
        subst e
        rw [if_pos h3, dd_fl (by decide)]
        apply eq_ti
        rw [fl_ti (by decide), fl_ti p2l, e2l]
        have e1 : 2 * k - D * (2 * x - l - x) = 2 * k - D * (x - l) := by grind
        have e3 : 2 * k * (x - l) - D * (x - l) * (x - l) = (2 * k - D * (x - l)) * (x - l) := by grind
        have bm : bd (2 * k - D * (x - l)) (2 * 1683200000000 + 84160000 * 20000) := bd_sub (bd_mul b2 bk (by decide)) (bd_mul bD bl (by decide)) (by decide)
        rw [e1, e3, ti_mul bm bl (by decide), show (2 : Int64).toInt = 2 from rfl]
        rw [Int.mul_ediv_mul_of_pos_left _ _ lp]
      · rw [if_neg h3, dd_fl (by decide)]
    · rw [if_neg h2]
      have h3 : x ≤ r := Int64.le_of_lt (Int64.not_le.mp h2)
      rw [if_pos h3, dd_fl p2l, show k * (2 * (r - l)) = 2 * k * (r - l) by grind]
/-! Pure: the table -/
theorem abv_eq {t u : St} (d : Int64) : ∀ (n i : Nat), (∀ j, i ≤ j → j < i + n → u.1 13 j = t.1 12 j) → x_abv t d n i = y_abv u.1 d n i
  | 0, _, _ => rfl
  | n + 1, i, h => by
    rw [x_abv, y_abv, h i (by omega) (by omega), abv_eq d n (i + 1) (fun j h1 h2 => h j (by omega) (by omega))]
theorem abv_le (L : Nat → Nat → Int64) (d : Int64) : ∀ (n i : Nat), i ≤ y_abv L d n i ∧ y_abv L d n i ≤ i + n
  | 0, i => ⟨Nat.le_refl _, Nat.le_refl _⟩
  | n + 1, i => by
    rw [y_abv]; split
    · omega
    · have := abv_le L d n (i + 1); omega
theorem abv_hit (L : Nat → Nat → Int64) (d : Int64) : ∀ (n i : Nat), y_abv L d n i < i + n → d ≤ L 13 (y_abv L d n i)
  | 0, i, h => absurd h (by rw [y_abv]; omega)
  | n + 1, i, h => by
    rw [y_abv] at h ⊢
    by_cases h1 : d ≤ L 13 i
    · rw [if_pos h1] at h ⊢; exact h1
    · rw [if_neg h1] at h ⊢; exact abv_hit L d n (i + 1) (by omega)
theorem abv_lo (L : Nat → Nat → Int64) (d : Int64) : ∀ (n i : Nat), i < y_abv L d n i → ¬ d ≤ L 13 (y_abv L d n i - 1)
  | 0, i, h => absurd h (by rw [y_abv]; omega)
  | n + 1, i, h => by
    rw [y_abv] at h ⊢
    by_cases h1 : d ≤ L 13 i
    · rw [if_pos h1] at h; omega
    · rw [if_neg h1] at h ⊢
      by_cases h2 : i + 1 < y_abv L d n (i + 1)
      · exact abv_lo L d n (i + 1) h2
      · have := abv_le L d n (i + 1)
        rw [show y_abv L d n (i + 1) - 1 = i by omega]; exact h1
/-- what the table says, as the reference reads it -/
theorem rd_eq {t u : St} (h : RR t u) (k : Nat) (hk : k = 13 ∨ k = 14) (d : Int64) : x_read k d t = x_put (y_tU (k + 1) u d) (y_tD u d) t ∧ 0 < (y_tD u d).toInt ∧ (((y_tD u d).toInt = 1 ∧ bd (y_tU (k + 1) u d) 10000) ∨ ((y_tD u d).toInt ≤ 5000000 ∧ bd (y_tU (k + 1) u d) 150000000000 ∧ bd d 5000000)) := by
  obtain ⟨en, hn, hA, hI⟩ := h.2.2.1
  have hc : ∀ i, i < t.2.2.2 2 → u.1 (k + 1) i = t.1 k i ∧ bd (t.1 k i) 10000 := by
    intro i hi
    obtain ⟨e, -, b1, b2⟩ := hA i hi
    rcases hk with rfl | rfl
    · exact ⟨e.2.1, b1⟩
    · exact ⟨e.2.2, b2⟩
  have ea : x_abv t d (t.2.2.2 2) 0 = y_abv u.1 d (t.2.2.2 2) 0 := abv_eq d _ _ (fun j _ hj => (hA j (by omega)).1.1)
  have hle := abv_le u.1 d (t.2.2.2 2) 0
  have hhit := abv_hit u.1 d (t.2.2.2 2) 0
  have hlo := abv_lo u.1 d (t.2.2.2 2) 0
  unfold x_read y_tU y_tD y_one y_two y_k
  rw [en, ea]
  generalize y_abv u.1 d (t.2.2.2 2) 0 = m at *
  by_cases hz : t.2.2.2 2 = 0
  · simp only [if_pos hz]
    exact ⟨by trivial, by decide, Or.inl (by decide)⟩
  · simp only [if_neg hz]
    by_cases h0 : m = 0
    · subst h0
      simp only [if_true, if_neg (show ¬ 0 = t.2.2.2 2 by omega)]
      rw [(hc 0 (by omega)).1]
      exact ⟨by trivial, by decide, Or.inl ⟨by decide, (hc 0 (by omega)).2⟩⟩
    · simp only [if_neg h0]
      by_cases h1 : m = t.2.2.2 2
      · simp only [if_pos h1, if_pos (show m - 1 = t.2.2.2 2 - 1 by omega)]
        rw [show m - 1 = t.2.2.2 2 - 1 by omega, (hc (t.2.2.2 2 - 1) (by omega)).1]
        exact ⟨rfl, by decide, Or.inl ⟨by decide, (hc _ (by omega)).2⟩⟩
      · simp only [if_neg h1, if_neg (show ¬ m - 1 = m by omega)]
        have g1 := hA (m - 1) (by omega)
        have g2 := hA m (by omega)
        rw [(hc (m - 1) (by omega)).1, (hc m (by omega)).1, g1.1.1, g2.1.1]
        refine ⟨rfl, ?_⟩
        have q1 := hhit (by omega)
        have q2 := hlo (by omega)
        rw [g2.1.1, le_ti] at q1
        rw [g1.1.1, le_ti] at q2
        have c1 := (hc (m - 1) (by omega)).2
        have c2 := (hc m (by omega)).2
        have r1 := g1.2.1
        have r2 := g2.2.1
        have s1 : bd (t.1 12 (m - 1)) 5000000 := ⟨by omega, by omega⟩
        have s2 : bd (t.1 12 m) 5000000 := ⟨by omega, by omega⟩
        have s3 : bd d 5000000 := ⟨by omega, by omega⟩
        have e1 := ti_sub s2 s1 (by decide)
        have e2 := ti_sub s3 s1 (by decide)
        have s4 : bd (t.1 12 m - t.1 12 (m - 1)) 5000000 := ⟨by omega, by omega⟩
        have s5 : bd (d - t.1 12 (m - 1)) 5000000 := ⟨by omega, by omega⟩
        have s6 := bd_add (bd_mul c1 s4 (by decide)) (bd_mul (bd_sub c2 c1 (by decide)) s5 (by decide)) (by decide)
        exact ⟨by omega, Or.inr ⟨by omega, bd_mono s6 (by decide), s3⟩⟩
