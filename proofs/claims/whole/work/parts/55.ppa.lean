/-! Pure: pumping -/
def SV (m : Nat) (t u : St) : Prop := RR t u ∧ t.2.2.2 5 = t.2.2.2 3 ∧ (∃ V, Sm t (u.1 10) V ∧ (∀ i, i < t.2.2.2 1 → t.1 10 i = V i) ∧ ∀ i, m ≤ i → i < t.2.2.2 1 → V i = u.1 11 i) ∧ (∀ i, i < t.2.2.2 0 → bd (u.1 10 i) 100000) ∧ ∀ i, m ≤ i → i < t.2.2.2 1 → 0 ≤ (u.1 11 i).toInt ∧ (u.1 11 i).toInt ≤ 40000
theorem SV.ss {t u : St} (h : SV 0 t u) : SS 100000 t u := by
  obtain ⟨h1, h2, ⟨V, v1, v2, v3⟩, h4, h5⟩ := h
  exact ⟨h1, h2, v1.congr (fun _ _ => rfl) (fun i hi => (v3 i (Nat.zero_le _) hi).symm), fun i hi => (v2 i hi).trans (v3 i (Nat.zero_le _) hi), h4, fun i hi => h5 i (Nat.zero_le _) hi⟩
theorem SS.sv {t u : St} (h : SS 100000 t u) (m : Nat) : SV m t u := ⟨h.1, h.2.1, ⟨u.1 11, h.2.2.1, h.2.2.2.1, fun _ _ _ => rfl⟩, h.2.2.2.2.1, fun i _ hi => h.2.2.2.2.2 i hi⟩
theorem SV.ag {m : Nat} {t u u' : St} (h : SV m t u) (a : Ag u' u) : SV m t u' := by
  obtain ⟨h1, h2, ⟨V, v1, v2, v3⟩, h4, h5⟩ := h
  have n1 := h1.1.1
  have n2 := h1.2.1.1
  refine ⟨h1.fr (CB.rf h1) a.1, h2, ⟨V, v1.congr (fun i hi => a.2.1 i (by omega)) (fun _ _ => rfl), v2, fun i hm hi => ?_⟩, fun i hi => ?_, fun i hm hi => ?_⟩
  · rw [a.2.2 i (by omega)]; exact v3 i hm hi
  · rw [a.2.1 i (by omega)]; exact h4 i hi
  · rw [a.2.2 i (by omega)]; exact h5 i hm hi
theorem SV.step {m : Nat} {t u : St} (h : SV (m + 1) t u) (hm : m < t.2.2.2 1) {v : Int64} (hv : 0 ≤ v.toInt ∧ v.toInt ≤ 40000) : SV m (x_fillT m v t) (sL u 11 m v) := by
  obtain ⟨h1, h2, ⟨V, v1, v2, v3⟩, h4, h5⟩ := h
  have cf := CF.fillT m v t
  refine ⟨h1.fr (cf.cb (fillT_11 _ _ _) h1) (EB.sL 11 _ _ (Or.inr (Or.inl rfl))), by rw [cf.2.2.1]; exact h2, ⟨va_up V m v, ?_, ?_, ?_⟩, ?_, ?_⟩
  · rw [sL_ne _ _ _ _ (by decide)]
    exact v1.fillT hm (v2 m hm) v
  · intro i hi
    rw [cf.2.2.1] at hi
    rw [fillT_10]
    by_cases e : i = m
    · subst e; rw [if_pos rfl, up_s]
    · rw [if_neg e, up_n e]; exact v2 i hi
  · intro i hm' hi
    rw [cf.2.2.1] at hi
    rw [sL_at]
    by_cases e : i = m
    · subst e; rw [if_pos rfl, up_s]
    · rw [if_neg e, up_n e]; exact v3 i (by omega) hi
  · intro i hi
    rw [cf.2.2.1] at hi
    rw [sL_ne _ _ _ _ (by decide)]; exact h4 i hi
  · intro i hm' hi
    rw [cf.2.2.1] at hi
    rw [sL_at]
    by_cases e : i = m
    · rw [if_pos e]; exact hv
    · rw [if_neg e]; exact h5 i (by omega) hi
theorem quart {x : Int64} {r : Nat} (h1 : 4 ≤ x.toInt) (h2 : x.toInt ≤ 40000) (hr : r < 5) : 0 ≤ (x / 4 * (nI r).toInt64).toInt ∧ (x / 4 * (nI r).toInt64).toInt ≤ 40000 := by
  have e1 : (x / 4).toInt = x.toInt / 4 := by rw [ti_div (by decide), show (4 : Int64).toInt = 4 from rfl, Int.tdiv_eq_ediv_of_nonneg (by omega)]
  have e2 : ((nI r).toInt64).toInt = (r : Int) := by rw [i64_toInt, nI_toInt (by omega)]
  have b1 : bd (x / 4) 10000 := ⟨by omega, by omega⟩
  have b2 : bd ((nI r).toInt64) 4 := ⟨by omega, by omega⟩
  have b3 := bd_mul b1 b2 (by decide)
  have e3 := ti_mul b1 b2 (by decide)
  refine ⟨?_, b3.2⟩
  rw [e3, e1, e2]
  exact Int.mul_nonneg (by omega) (by omega)
theorem SV.set : ∀ (m r b : Nat) (w : Int64) {t u : St}, SV m t u → m ≤ t.2.2.2 1 → SS 100000 (x_set m r t) (y_in m r b w u).2.2
  | 0, _, _, _, _, _, h, _ => h.ss
  | m + 1, r, b, w, t, u, h, hm => by
    have n2 : u.2.2.2 2 = t.2.2.2 1 := h.1.2.1.1
    obtain ⟨g1, g2, _⟩ := h.1.2.1.2.2.1 m (by omega)
    have hlt : m < u.2.2.2 2 := by omega
    rw [x_set, y_in]
    simp only [if_pos hlt]
    rw [g1.1]
    refine SV.set m (r / 5) _ _ (h.step (by omega) (quart g2.1 g2.2 (Nat.mod_lt _ (by decide)))) ?_
    rw [x_fillT_N]; omega
theorem in_fl0 : ∀ (n r : Nat) (w : Int64) (u : St), (y_in n r 0 w u).1 = 0
  | 0, _, _, _ => rfl
  | n + 1, r, w, u => by
    rw [y_in, if_pos rfl]; exact in_fl0 n _ _ _
theorem in_N : ∀ (n r b : Nat) (w : Int64) (u : St), (y_in n r b w u).2.2.2.2.2 = u.2.2.2 := fun n r b w u => (EqB.in n r b w u).2.2.2.2
theorem in_fl1 : ∀ (n r : Nat) (w : Int64) (u : St), n ≤ u.2.2.2 2 → (y_in n r 1 w u).1 = 1
  | 0, _, _, _, _ => rfl
  | n + 1, r, w, u, h => by
    rw [y_in, if_neg (by decide), if_pos (show n < u.2.2.2 2 by omega)]
    refine in_fl1 n _ _ _ ?_
    split
    · show n ≤ u.2.2.2 2; omega
    · omega
theorem in_b : ∀ (n r b b' : Nat) (w : Int64) (u : St), (y_in n r b w u).2 = (y_in n r b' w u).2
  | 0, _, _, _, _, _ => rfl
  | n + 1, r, b, b', w, u => by rw [y_in, y_in]; exact in_b n _ _ _ _ _
theorem in_hi : ∀ (j r : Nat) (w : Int64) (u : St), (y_in (u.2.2.2 2 + j) r 1 w u).1 = (if r % 5 ^ j = 0 then 1 else 0) ∧ (y_in (u.2.2.2 2 + j) r 1 w u).2 = (y_in (u.2.2.2 2) (r / 5 ^ j) 1 w u).2
  | 0, r, w, u => by
    rw [Nat.add_zero, Nat.pow_zero, Nat.mod_one, Nat.div_one, if_pos rfl]
    exact ⟨in_fl1 _ _ _ _ (Nat.le_refl _), rfl⟩
  | j + 1, r, w, u => by
    have hn : ¬ u.2.2.2 2 + j < u.2.2.2 2 := by omega
    rw [show u.2.2.2 2 + (j + 1) = (u.2.2.2 2 + j) + 1 by omega, y_in]
    simp only [if_neg hn, if_neg (show ¬ (1 : Nat) = 0 by decide)]
    have hp : 5 ^ (j + 1) = 5 * 5 ^ j := by rw [Nat.pow_succ, Nat.mul_comm]
    have ed : r / 5 ^ (j + 1) = r / 5 / 5 ^ j := by rw [hp, Nat.div_div_eq_div_mul]
    have em : r % 5 ^ (j + 1) = r % 5 + 5 * (r / 5 % 5 ^ j) := by rw [hp, Nat.mod_mul]
    obtain ⟨i1, i2⟩ := in_hi j (r / 5) w u
    by_cases h5 : r % 5 = 0
    · rw [if_pos h5, ed, em, h5, Nat.zero_add]
      refine ⟨?_, i2⟩
      rw [i1]
      by_cases hz : r / 5 % 5 ^ j = 0
      · rw [if_pos hz, if_pos (by omega)]
      · rw [if_neg hz, if_neg (by omega)]
    · rw [if_neg h5, ed, em]
      refine ⟨?_, (in_b _ _ 0 1 _ _).trans i2⟩
      rw [in_fl0, if_neg (by omega)]
theorem in_ne {q : Nat} (hq : q ≠ 11) : ∀ (n r b : Nat) (w : Int64) (u : St), (y_in n r b w u).2.2.1 q = u.1 q
  | 0, _, _, _, _ => rfl
  | n + 1, r, b, w, u => by
    rw [y_in, in_ne hq n]; split
    · exact sL_ne _ _ _ _ hq
    · rfl
theorem in_11 : ∀ (n r b : Nat) (w : Int64) (u : St) (j : Nat), n ≤ j → (y_in n r b w u).2.2.1 11 j = u.1 11 j
  | 0, _, _, _, _, _, _ => rfl
  | n + 1, r, b, w, u, j, hj => by
    rw [y_in, in_11 n _ _ _ _ j (by omega)]; split
    · rw [sL_at, if_neg (by omega)]
    · rfl
theorem in_w : ∀ (m r b : Nat) (w : Int64) (u : St), m ≤ u.2.2.2 2 → (y_in m r b w u).2.1 = w + sg (fun i => y_ab ((y_in m r b w u).2.2.1 11 i - u.1 9 i)) m
  | 0, r, b, w, u, _ => by rw [y_in, sg]; exact (Int64.add_zero w).symm
  | m + 1, r, b, w, u, h => by
    have hlt : m < u.2.2.2 2 := by omega
    rw [y_in]
    simp only [if_pos hlt]
    generalize hb : (if b = 0 then 0 else 1) = b'
    generalize hv : u.1 4 m / 4 * (nI (r % 5)).toInt64 = v
    have ih := in_w m (r / 5) b' (w + y_ab (v - u.1 9 m)) (sL u 11 m v) (by show m ≤ u.2.2.2 2; omega)
    have e := in_11 m (r / 5) b' (w + y_ab (v - u.1 9 m)) (sL u 11 m v) m (Nat.le_refl _)
    rw [ih, sg, e, sL_at, if_pos rfl, sL_ne _ _ _ _ (show (9 : Nat) ≠ 11 by decide)]
    generalize sg _ m = s
    generalize y_ab _ = q
    grind
theorem wk_sg (t : St) (n : Nat) : x_wk t n 0 0 = sg (fun i => x_abs (t.1 10 i - t.1 9 i)) n := by
  rw [ac_0 (F := x_wk t) (g := fun i => x_abs (t.1 10 i - t.1 9 i)) (fun _ _ => rfl) (fun _ _ _ => rfl), Int64.zero_add]
theorem sg_nn {f : Nat → Int64} {M : Int} : ∀ {n : Nat}, (∀ i, i < n → 0 ≤ (f i).toInt ∧ (f i).toInt ≤ M) → (n : Int) * M < 2 ^ 63 → 0 ≤ M → 0 ≤ (sg f n).toInt ∧ (sg f n).toInt ≤ (n : Int) * M
  | 0, _, _, _ => ⟨by simp [sg], by simp [sg]⟩
  | n + 1, h, hn, hM => by
    have e : ((n + 1 : Nat) : Int) * M = (n : Int) * M + M := by rw [Int.natCast_add, Int.add_mul]; simp
    rw [e] at hn ⊢
    obtain ⟨i1, i2⟩ := sg_nn (f := f) (n := n) (fun i hi => h i (by omega)) (by omega) hM
    obtain ⟨j1, j2⟩ := h n (by omega)
    rw [sg, ti_add (A := (n : Int) * M) (B := M) ⟨by omega, i2⟩ ⟨by omega, j2⟩ hn]
    omega
/-- the work of one setting, by both -/
theorem work_eq {t u : St} {c r : Nat} (h : SV (t.2.2.2 1) t u) (e : r = c) : x_wk (x_tw c t) ((x_tw c t).2.2.2 1) 0 0 = (y_in (t.2.2.2 1) r 1 0 u).2.1 ∧ 0 ≤ (x_wk (x_tw c t) ((x_tw c t).2.2.2 1) 0 0).toInt := by
  subst e
  have n2 : u.2.2.2 2 = t.2.2.2 1 := h.1.2.1.1
  have g := SV.set (t.2.2.2 1) r 1 0 h (Nat.le_refl _)
  have bt := h.1.2.1.2.1
  rw [in_w _ _ _ _ _ (by omega), x_tw_N, wk_sg, Int64.zero_add]
  have hN : (x_set (t.2.2.2 1) r t).2.2.2 = t.2.2.2 := x_set_N _ _ _
  have e9 : ∀ i, i < t.2.2.2 1 → (x_set (t.2.2.2 1) r t).1 9 i = u.1 9 i := fun i hi => by
    have := (g.1.2.1.2.2.1 i (by rw [hN]; exact hi)).1.2.2.2.2.2
    rw [in_ne (by decide)] at this; exact this.symm
  have e10 : ∀ i, i < t.2.2.2 1 → (x_set (t.2.2.2 1) r t).1 10 i = (y_in (t.2.2.2 1) r 1 0 u).2.2.1 11 i := fun i hi => g.2.2.2.1 i (by rw [hN]; exact hi)
  refine ⟨sg_congr fun i hi => ?_, (sg_nn (M := 80000) (fun i hi => ?_) (by omega) (by decide)).1⟩
  · show x_abs ((x_set (t.2.2.2 1) r t).1 10 i - (x_set (t.2.2.2 1) r t).1 9 i) = _
    rw [ab_eq, e9 i hi, e10 i hi]
  · show 0 ≤ (x_abs ((x_set (t.2.2.2 1) r t).1 10 i - (x_set (t.2.2.2 1) r t).1 9 i)).toInt ∧ (x_abs ((x_set (t.2.2.2 1) r t).1 10 i - (x_set (t.2.2.2 1) r t).1 9 i)).toInt ≤ 80000
    have b1 : bd ((x_set (t.2.2.2 1) r t).1 10 i) 40000 := by rw [e10 i hi]; exact g.V (by rw [hN]; exact hi)
    obtain ⟨_, q2, _, _, q5⟩ := g.1.2.1.2.2.1 i (by rw [hN]; exact hi)
    have b2 : bd ((x_set (t.2.2.2 1) r t).1 9 i) 40000 := ⟨by omega, by omega⟩
    have b3 := bd_sub b1 b2 (by decide)
    rw [ab_eq, ab_ti b3 (by decide)]
    simp only [bd] at b3
    omega
theorem put_L (a b : Int64) (t : St) : (x_put a b t).1 = t.1 := by unfold x_put; split <;> rfl
theorem read_L (k : Nat) (d : Int64) (t : St) : (x_read k d t).1 = t.1 := by unfold x_read; split <;> (try split) <;> (try split) <;> exact put_L _ _ _
theorem work_L (w : Int32) (t : St) : (x_work w t).1 = t.1 := by
  unfold x_work
  repeat' split
  all_goals first | exact put_L _ _ _ | exact read_L _ _ _ | exact (put_L _ _ _).trans (read_L _ _ _)
theorem bt_L (n : Nat) (t : St) : (x_bt n t).1 = t.1 := by unfold x_bt; split; rfl; split; rfl; split; rfl; exact work_L _ _
theorem lb_L : ∀ (n i : Nat) (t : St), (x_lb n i t).2.1 = t.1
  | 0, _, _ => rfl
  | n + 1, i, t => by rw [x_lb]; split; exact bt_L _ _; rw [lb_L n, bt_L]
theorem ybt_L (n : Nat) (t : St) : (y_bt n t).1 = t.1 := by unfold y_bt; split; split; rfl; rfl; rfl
theorem ylb_L : ∀ (n i : Nat) (t : St), (y_lb n i t).2.1 = t.1
  | 0, _, _ => rfl
  | n + 1, i, t => by rw [y_lb]; split; exact ybt_L _ _; rw [ylb_L n, ybt_L]
theorem set_11 : ∀ (m r : Nat) (t : St), (x_set m r t).1 11 = t.1 11
  | 0, _, _ => rfl
  | m + 1, r, t => by rw [x_set, set_11 m, fillT_11]
theorem FF.kt : ∀ (n i : Nat) (t : St), FF (x_kt n i t) t
  | 0, _, t => FF.rf t
  | n + 1, i, t => (FF.kt n (i + 1) _).tr ⟨fun k hk => sL_ne _ _ _ _ hk, rfl, rfl, fun _ _ _ => rfl⟩
theorem kt_11 : ∀ (n i : Nat) (t : St) (j : Nat), (x_kt n i t).1 11 j = if i ≤ j ∧ j < i + n then t.1 10 j else t.1 11 j
  | 0, i, t, j => by rw [x_kt, if_neg (by omega)]
  | n + 1, i, t, j => by
    rw [x_kt, kt_11 n (i + 1), sL_ne _ _ _ _ (show (10 : Nat) ≠ 11 by decide), sL_at]
    by_cases e : j = i
    · subst e; rw [if_neg (by omega), if_pos rfl, if_pos (by omega)]
    · rw [if_neg e]
      by_cases h : i + 1 ≤ j ∧ j < i + 1 + n
      · rw [if_pos h, if_pos (by omega)]
      · rw [if_neg h, if_neg (by omega)]
theorem kb_ne {q : Nat} (hq : q ≠ 12) : ∀ (n i : Nat) (t : St), (y_kb n i t).1 q = t.1 q
  | 0, _, _ => rfl
  | n + 1, i, t => by rw [y_kb, kb_ne hq n, sL_ne _ _ _ _ hq]
theorem kb_12 : ∀ (n i : Nat) (t : St) (j : Nat), (y_kb n i t).1 12 j = if i ≤ j ∧ j < i + n then t.1 11 j else t.1 12 j
  | 0, i, t, j => by rw [y_kb, if_neg (by omega)]
  | n + 1, i, t, j => by
    rw [y_kb, kb_12 n (i + 1), sL_ne _ _ _ _ (show (11 : Nat) ≠ 12 by decide), sL_at]
    by_cases e : j = i
    · subst e; rw [if_neg (by omega), if_pos rfl, if_pos (by omega)]
    · rw [if_neg e]
      by_cases h : i + 1 ≤ j ∧ j < i + 1 + n
      · rw [if_pos h, if_pos (by omega)]
      · rw [if_neg h, if_neg (by omega)]
theorem Ag.kb (n i : Nat) (t : St) : Ag (y_kb n i t) t := ⟨(EqB.kb n i t).eb, fun _ _ => by rw [kb_ne (by decide)], fun _ _ => by rw [kb_ne (by decide)]⟩
/-- the state at the head of a round -/
def PI (b : Int64) (t u : St) : Prop := SV (t.2.2.2 1) t (y_pre u) ∧ (b = -1 ∨ (0 ≤ b.toInt ∧ ∀ i, i < t.2.2.2 1 → t.1 11 i = u.1 12 i))
theorem SV.next {t w u : St} (h : SS 100000 t w) (hk : ∀ i, i < w.2.2.2 1 → w.1 10 i = w.1 0 i) (e : EB u w) : SV (t.2.2.2 1) t (y_pre u) := by
  have n1 := h.nw
  have n2 := h.nt
  have hw : ∀ i, i < t.2.2.2 0 → (y_pre u).1 10 i = w.1 10 i := fun i hi => by
    rw [pre_10 u (by rw [e.2.2.2.2 1 (by decide)]; omega), e.1 0 (by decide) (by decide) (by decide), hk i (by omega)]
  refine ⟨h.1.fr (CB.rf h.1) ((EqB.pre u).eb.tr e), h.2.1, ⟨w.1 11, h.2.2.1.congr hw (fun _ _ => rfl), h.2.2.2.1, fun i h1 h2 => absurd h2 (by omega)⟩, fun i hi => by rw [hw i hi]; exact h.2.2.2.2.1 i hi, fun i h1 h2 => absurd h2 (by omega)⟩
theorem PI.eb {b : Int64} {t u u' : St} (h : PI b t u) (e : EB u' u) (e12 : u'.1 12 = u.1 12) : PI b t u' := ⟨h.1.ag (Ag.pre e), by rw [e12]; exact h.2⟩
theorem PI.step {b : Int64} {t u : St} {c j : Nat} (h : PI b t u) (hj : u.2.2.2 2 + j = 4) : ∃ b' t' u', (∀ n, x_fp (n + 1) c b t = x_fp n (c + 1) b' t') ∧ (∀ n, y_pp (n + 1) (c * 5 ^ j) b u = y_pp n (c * 5 ^ j + 1) b' u') ∧ PI b' t' u' ∧ t'.2.2.2 = t.2.2.2 ∧ u'.2.2.2 = u.2.2.2 := by
  obtain ⟨hv, hb⟩ := h
  have n2 : u.2.2.2 2 = t.2.2.2 1 := by have := hv.1.2.1.1; rw [y_pre_2] at this; exact this
  have p2 : (y_pre u).2.2.2 2 = u.2.2.2 2 := by rw [y_pre_2]
  obtain ⟨i1, i2⟩ := in_hi j (c * 5 ^ j) 0 (y_pre u)
  have hpp : 0 < 5 ^ j := Nat.pow_pos (by decide)
  rw [p2, hj, Nat.mul_mod_left, if_pos rfl] at i1
  rw [p2, hj, Nat.mul_div_cancel _ hpp, n2] at i2
  have i1 : (y_ic (c * 5 ^ j) u).1 = 1 := i1
  have i2 : (y_ic (c * 5 ^ j) u).2 = (y_in (t.2.2.2 1) c 1 0 (y_pre u)).2 := i2
  obtain ⟨S, hS⟩ : ∃ S, S = y_ic (c * 5 ^ j) u := ⟨_, rfl⟩
  have eS0 : EqB (y_ic (c * 5 ^ j) u).2.2 u := (EqB.in _ _ _ _ _).tr (EqB.pre u)
  have l120 : (y_ic (c * 5 ^ j) u).2.2.1 12 = u.1 12 := (in_ne (by decide) _ _ _ _ _).trans (pre_12 u)
  have q10 : (y_ic (c * 5 ^ j) u).2.2.1 10 = (y_pre u).1 10 := in_ne (by decide) _ _ _ _ _
  rw [← hS] at i1 i2 eS0 l120 q10
  have hw := work_eq (c := c) hv rfl
  rw [← i2] at hw
  have hs : SS 100000 (x_tw c t) S.2.2 := by rw [i2]; exact SV.set (t.2.2.2 1) c 1 0 hv (Nat.le_refl _)
  have eS := eS0
  have l12 := l120
  have l11 : (x_tw c t).1 11 = t.1 11 := set_11 _ _ _
  have kB : ∀ i, i < S.2.2.2.2.2 1 → S.2.2.1 10 i = S.2.2.1 0 i := fun i hi => by
    rw [eS.2.2.2.2] at hi
    have q1 := q10
    rw [q1, pre_10 u hi, eS.1 0 (by decide) (by decide) (by decide)]
  have nT : (x_tw c t).2.2.2 = t.2.2.2 := x_tw_N _ _
  have e4 : ¬ S.1 = 0 := by rw [i1]; decide
  have hcond : (b = -1 ∨ x_wk (x_tw c t) ((x_tw c t).2.2.2 1) 0 0 < b) ↔ (b < 0 ∨ ¬ b ≤ S.2.1) := by
    rw [← hw.1, Int64.not_le]
    rcases hb with e | ⟨e, _⟩
    · exact ⟨fun _ => Or.inl (by rw [e]; decide), fun _ => Or.inl e⟩
    · constructor
      · rintro (q | q)
        · exact Or.inl (by rw [q]; decide)
        · exact Or.inr q
      · rintro (q | q)
        · rw [Int64.lt_iff_toInt_lt, ti_0] at q; omega
        · exact Or.inr q
  by_cases hc : b = -1 ∨ x_wk (x_tw c t) ((x_tw c t).2.2.2 1) 0 0 < b
  · have hc' := hcond.mp hc
    obtain ⟨k1, k2⟩ := hs.lbn (by decide)
    have nL : (x_lbt (x_tw c t)).2.2.2 = t.2.2.2 := (x_lb_N _ _ _).trans nT
    have nM : (y_bs S.2.2).2.2.2 = u.2.2.2 := (y_lb_N _ _ _).trans eS.2.2.2.2
    have aL : (y_bs S.2.2).1 = S.2.2.1 := ylb_L _ _ _
    have xL : (x_lbt (x_tw c t)).1 = (x_tw c t).1 := lb_L _ _ _
    have kB2 : ∀ i, i < (y_bs S.2.2).2.2.2 1 → (y_bs S.2.2).1 10 i = (y_bs S.2.2).1 0 i := fun i hi => by
      rw [aL]; rw [nM, ← eS.2.2.2.2] at hi; exact kB i hi
    by_cases hz : x_lbn (x_tw c t) = 0
    · have hz' : y_bn S.2.2 = 0 := by rw [← k1]; exact hz
      refine ⟨S.2.1, x_kt ((x_lbt (x_tw c t)).2.2.2 1) 0 (x_lbt (x_tw c t)), y_kb ((y_bs S.2.2).2.2.2 2) 0 (y_bs S.2.2), fun n => ?_, fun n => ?_, ?_, ?_, ?_⟩
      · rw [x_fp, if_pos hc, if_pos hz, hw.1]
      · rw [y_pp, ← hS, if_neg e4, if_pos hc', if_pos hz']
      · have nK : (x_kt ((x_lbt (x_tw c t)).2.2.2 1) 0 (x_lbt (x_tw c t))).2.2.2 = t.2.2.2 := (x_kt_N _ _ _).trans nL
        have g : SS 100000 (x_kt ((x_lbt (x_tw c t)).2.2.2 1) 0 (x_lbt (x_tw c t))) (y_bs S.2.2) := k2.fr (FF.kt _ _ _) (Ag.rf _)
        refine ⟨SV.next g kB2 (EqB.kb _ _ _).eb, Or.inr ⟨by rw [← hw.1]; exact hw.2, fun i hi => ?_⟩⟩
        rw [nK] at hi
        rw [kt_11, kb_12, nL, nM, if_pos (by omega), if_pos (by omega)]
        exact k2.2.2.2.1 i (by rw [nL]; exact hi)
      · exact (x_kt_N _ _ _).trans nL
      · exact (EqB.kb _ _ _).2.2.2.2.trans nM
    · have hz' : ¬ y_bn S.2.2 = 0 := by rw [← k1]; exact hz
      refine ⟨b, x_lbt (x_tw c t), y_bs S.2.2, fun n => ?_, fun n => ?_, ⟨SV.next k2 kB2 (EB.rf _), ?_⟩, nL, nM⟩
      · rw [x_fp, if_pos hc, if_neg hz]
      · rw [y_pp, ← hS, if_neg e4, if_pos hc', if_neg hz']
      · rw [nL, xL, aL, l11, l12]; exact hb
  · have hc' : ¬ (b < 0 ∨ ¬ b ≤ S.2.1) := fun z => hc (hcond.mpr z)
    refine ⟨b, x_tw c t, S.2.2, fun n => ?_, fun n => ?_, ⟨SV.next hs kB (EB.rf _), ?_⟩, nT, eS.2.2.2.2⟩
    · rw [x_fp, if_neg hc]
    · rw [y_pp, ← hS, if_neg e4, if_neg hc']
    · rw [nT, l11, l12]; exact hb
theorem pp_skip {j : Nat} : ∀ (k r c : Nat) (b : Int64) (u : St), u.2.2.2 2 + j = 4 → (∀ q, q < k → ¬ (c + q) % 5 ^ j = 0) → ∃ u', y_pp (k + r) c b u = y_pp r (c + k) b u' ∧ EB u' u ∧ u'.1 12 = u.1 12 ∧ u'.2.2.2 = u.2.2.2
  | 0, r, c, b, u, _, _ => ⟨u, by rw [Nat.zero_add, Nat.add_zero], EB.rf u, rfl, rfl⟩
  | k + 1, r, c, b, u, hj, h => by
    have p2 : (y_pre u).2.2.2 2 = u.2.2.2 2 := by rw [y_pre_2]
    obtain ⟨i1, -⟩ := in_hi j c 0 (y_pre u)
    rw [p2, hj, if_neg (by have := h 0 (by omega); rw [Nat.add_zero] at this; exact this)] at i1
    have i1 : (y_ic c u).1 = 0 := i1
    have eS : EqB (y_ic c u).2.2 u := (EqB.in _ _ _ _ _).tr (EqB.pre u)
    have l12 : (y_ic c u).2.2.1 12 = u.1 12 := (in_ne (by decide) _ _ _ _ _).trans (pre_12 u)
    obtain ⟨u', k1, k2, k3, k4⟩ := pp_skip k r (c + 1) b (y_ic c u).2.2 (by rw [eS.2.2.2.2]; exact hj) (fun q hq => by have := h (q + 1) (by omega); rw [show c + 1 + q = c + (q + 1) by omega]; exact this)
    refine ⟨u', ?_, k2.tr eS.eb, k3.trans l12, k4.trans eS.2.2.2.2⟩
    rw [show k + 1 + r = (k + r) + 1 by omega, y_pp, if_pos i1, k1, show c + 1 + k = c + (k + 1) by omega]
theorem PI.loop {j : Nat} : ∀ (m c : Nat) (b : Int64) (t u : St), u.2.2.2 2 + j = 4 → PI b t u → (x_fp m c b t).1 = (y_pp (m * 5 ^ j) (c * 5 ^ j) b u).1 ∧ PI (x_fp m c b t).1 (x_fp m c b t).2 (y_pp (m * 5 ^ j) (c * 5 ^ j) b u).2
  | 0, c, b, t, u, _, h => by rw [Nat.zero_mul]; exact ⟨rfl, h⟩
  | m + 1, c, b, t, u, hj, h => by
    obtain ⟨b', t', u', k1, k2, k3, k4, k5⟩ := h.step (c := c) hj
    have hpp : 0 < 5 ^ j := Nat.pow_pos (by decide)
    obtain ⟨u'', l1, l2, l3, l4⟩ := pp_skip (j := j) (5 ^ j - 1) (m * 5 ^ j) (c * 5 ^ j + 1) b' u' (by rw [k5]; exact hj) (fun q hq => by
      rw [show c * 5 ^ j + 1 + q = (q + 1) + c * 5 ^ j by omega, Nat.add_mul_mod_self_right, Nat.mod_eq_of_lt (by omega)]; omega)
    have e1 : (m + 1) * 5 ^ j = (5 ^ j - 1 + m * 5 ^ j) + 1 := by rw [Nat.add_mul, Nat.one_mul]; omega
    have e2 : c * 5 ^ j + 1 + (5 ^ j - 1) = (c + 1) * 5 ^ j := by rw [Nat.add_mul, Nat.one_mul]; omega
    rw [k1, e1, k2, l1, e2]
    exact PI.loop m (c + 1) b' t' u'' (by rw [l4, k5]; exact hj) (k3.eb l2 l3)
theorem pump_eq {t u : St} (h : RR t u) : (x_pump t).1 = (y_pump u).1 ∧ PI (x_pump t).1 (x_pump t).2 (y_pump u).2 := by
  have n6 := x_gath_6 t
  have n2 : u.2.2.2 2 = t.2.2.2 1 := h.2.1.1
  have b4 := h.2.1.2.1
  have hp : PI (-1) (x_gath t) u := ⟨(SS.gath h).sv _, Or.inl rfl⟩
  have := PI.loop (j := 4 - t.2.2.2 1) (5 ^ t.2.2.2 1) 0 (-1) (x_gath t) u (by omega) hp
  rw [← Nat.pow_add, show t.2.2.2 1 + (4 - t.2.2.2 1) = 4 by omega, Nat.zero_mul] at this
  exact this
theorem PI.rr {b : Int64} {t u : St} (h : PI b t u) : RR t u := h.1.1.fr (CB.rf h.1.1) (EqB.pre u).eb.sy
theorem pt_ballast : PT_ballast RR := by
  intro t u h
  obtain ⟨k1, k2⟩ := pump_eq (h.n0 0)
  exact ⟨k1, k2.rr⟩
theorem pt_fill : PT_fill RR := by
  intro t u a h
  have hn : u.2.2.2 2 = t.2.2.2 1 := h.2.1.1
  have hb := h.2.1.2.1
  by_cases h0 : x_th a (t.2.2.2 1)
  · have hj := th_lt h0 (by omega)
    have h0' : x_th a (u.2.2.2 2) := by rw [hn]; exact h0
    have e1 : k_fill a t = 0 := by rw [k_fill, if_pos h0]
    have e2 : s_fill a t = (x_pump t).2 := if_pos e1
    have e3 : m_fill a u = (y_pump (sN u 0 0)).2 := if_pos h0'
    have e4 : w_fill a u = _ := if_pos h0'
    obtain ⟨k1, k2⟩ := pump_eq (h.n0 0)
    have eN : (y_pump (sN u 0 0)).2.2.2.2 = (sN u 0 0).2.2.2 := (EqB.pp _ _ _ _).2.2.2.2
    rw [e1, e2, e3, e4, v_fill, eN]
    refine ⟨nI_0, fun _ => ?_, k2.rr⟩
    unfold x_fv
    rw [← k1]
    rcases k2.2 with q | ⟨q, q2⟩
    · have n0 : ¬ 0 ≤ (x_pump t).1 := by rw [q]; decide
      rw [if_pos q, if_neg n0]
    · have p0 : 0 ≤ (x_pump t).1 := le_ti.mpr (by rw [ti_0]; exact q)
      have n1 : ¬ (x_pump t).1 = -1 := fun z => by rw [z] at p0; exact absurd p0 (by decide)
      rw [if_neg n1, if_pos p0]
      exact q2 _ (by rw [(x_pump_6 t).2.1]; exact hj)
  · have e1 : k_fill a t = 1 := by rw [k_fill, if_neg h0]
    have e0 : ¬ k_fill a t = 0 := by rw [e1]; decide
    have e2 : s_fill a t = t := if_neg e0
    have e3 : m_fill a u = sN u 0 1 := if_neg (by rw [hn]; exact h0)
    rw [e2, e3]
    exact ⟨n_1.trans e1.symm, fun z => absurd z e0, h.n0 1⟩
theorem pt_base : PT_base RR := by
  intro t u h
  have bw := h.1.2.1; have bt := h.2.1.2.1; have bb := h.2.2.1.2.1; have bl := h.2.2.2.1.2.1; have be := h.2.2.2.2.1.2.1
  have nw := h.1.1; have nt := h.2.1.1; have nb := h.2.2.1.1; have nl := h.2.2.2.1.1; have ne := h.2.2.2.2.1.1
  have eo : EO t := by
    intro i hi
    obtain ⟨_, j, ej, hj⟩ := h.2.2.2.2.1.2.2 i hi
    have hjl : j < 2 ^ 31 := by rcases hj with ⟨_, q, _⟩ | ⟨_, q, _⟩ <;> omega
    rw [ej, nI_clamp hjl]
    refine ⟨rfl, fun z => ?_, fun z => ?_⟩
    · rcases hj with ⟨_, q, _⟩ | ⟨q, _⟩
      · omega
      · exact absurd z q
    · rcases hj with ⟨q, _⟩ | ⟨_, q, _⟩
      · exact absurd q z
      · omega
  refine ⟨⟨bw, bt, bb, bl, be, h.2.2.2.2.2.2⟩, ⟨by omega, by omega, by omega, by omega, by omega⟩, eo, ?_, (SS.gath (h.n0 0)).hz (by decide), fun k t' hk et => ?_, fun i t' hi et => ?_, fun a0 a1 h0 hz => ?_⟩
  · intro i hi
    rw [ne] at hi
    obtain ⟨⟨q1, q2, _⟩, _⟩ := h.2.2.2.2.1.2.2 i hi
    rw [q1, q2]; exact eo i hi
  · have h' : RR t t' := h.fr (CB.rf h) (et.eb.tr (EB.n0 u 0))
    have n2' : t'.2.2.2 2 = t.2.2.2 1 := h'.2.1.1
    have p2 : (y_pre t').2.2.2 2 = t.2.2.2 1 := by rw [y_pre_2]; exact n2'
    have i2 := (in_hi (4 - t.2.2.2 1) k 0 (y_pre t')).2
    rw [p2, show t.2.2.2 1 + (4 - t.2.2.2 1) = 4 by omega] at i2
    have n6 := x_gath_6 t
    have hv := (SS.gath h').sv ((x_gath t).2.2.2 1)
    have := SV.set ((x_gath t).2.2.2 1) (k / 5 ^ (4 - t.2.2.2 1)) 1 0 hv (Nat.le_refl _)
    rw [n6.2.1, ← i2] at this
    exact this.hz (by decide)
  · have h' : RR t t' := h.fr (CB.rf h) (et.eb.tr (EB.n0 u 0))
    exact (SS.ss h' (by omega)).hz (by decide)
  · obtain ⟨k, g1, g2⟩ := val_ok h h0 hz
    exact ⟨ne_of_ti (by have := k.2.2.2.1.1; omega), ne_of_ti (by omega)⟩
