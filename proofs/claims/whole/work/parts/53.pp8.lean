/-! Pure: gathering, steps -/
theorem CF.cb {a b c : St} (h : CF a b) (hL : a.1 11 = b.1 11) (g : RR b c) : CB a b := ⟨fun k h1 _ _ h3 h4 => h.1 k h1 h3 h4, fun i => by rw [h.1 18 (by decide) (by decide) (by decide)], h.2.1, h.2.2.2.1, h.2.2.2.2, fun k _ => by rw [h.2.2.1], by rw [h.2.2.1]; exact g.2.2.2.2.2.2⟩
theorem CF.gw : ∀ (n i : Nat) (t : St), CF (x_gw n i t) t
  | 0, _, t => CF.rf t
  | n + 1, i, t => (CF.gw n (i + 1) _).tr (CF.more _ _ _)
theorem CF.gt : ∀ (n i : Nat) (t : St), CF (x_gt n i t) t
  | 0, _, t => CF.rf t
  | n + 1, i, t => (CF.gt n (i + 1) _).tr ((CF.fillT _ _ _).tr (CF.sL 10 _ _ (by omega)))
theorem CF.cclr : ∀ (n i : Nat) (t : St), CF (x_cclr n i t) t
  | 0, _, t => CF.rf t
  | n + 1, i, t => (CF.cclr n (i + 1) _).tr ((CF.sL 20 _ _ (by omega)).tr (CF.sL 19 _ _ (by omega)))
theorem cclr_F : ∀ (n i : Nat) (t : St), (x_cclr n i t).2.2.1 = t.2.2.1
  | 0, _, _ => rfl
  | n + 1, i, t => by rw [x_cclr, cclr_F n]; rfl
theorem cclr_19 : ∀ (n i : Nat) (t : St) (c : Nat), (∀ j, j < i → t.1 19 j = 0 ∧ t.1 20 j = 0) → c < i + n → (x_cclr n i t).1 19 c = 0 ∧ (x_cclr n i t).1 20 c = 0
  | 0, i, t, c, h, hc => h c (by omega)
  | n + 1, i, t, c, h, hc => by
    rw [x_cclr]
    refine cclr_19 n (i + 1) _ c (fun j hj => ?_) (by omega)
    rw [sL_ne _ _ _ _ (show (19 : Nat) ≠ 20 by decide), sL_at, sL_at, sL_ne _ _ _ _ (show (20 : Nat) ≠ 19 by decide)]
    by_cases e : j = i
    · rw [if_pos e, if_pos e]; exact ⟨rfl, rfl⟩
    · rw [if_neg e, if_neg e]; exact h j (by omega)
theorem Sm.zero (t : St) : Sm (x_g0 t) (fun _ => 0) (fun _ => 0) := by
  have hF : (x_g0 t).2.2.1 = (x_uclr t).2.2.1 := cclr_F _ _ _
  have hN : (x_g0 t).2.2.2 = va_up t.2.2.2 5 (t.2.2.2 3) := by rw [x_g0, x_cclr_N]; rfl
  have z : ∀ n, sg (fun _ => (0 : Int64)) n = 0 := fun n => sg_zero (fun _ _ => rfl)
  have z2 : ∀ (g : Nat → Int64) n, sg (fun i => (0 : Int64) * g i) n = 0 := fun g n => sg_zero (fun _ _ => Int64.zero_mul)
  refine ⟨?_, ?_, ?_, ?_, ?_, fun c hc => ?_⟩
  · rw [hF, z, z]; rfl
  · rw [hF, z2, z2]; rfl
  · rw [hF, z2, z2]; rfl
  · rw [hF, z2, z2]; rfl
  · rw [hF, sg_zero]
    · rfl
    · intro i _
      simp only [x_surf]
      rw [if_neg (fun q => absurd q.1 (by decide))]
  · have h5 : (x_g0 t).2.2.2 5 = t.2.2.2 3 := by rw [hN]; rfl
    rw [h5] at hc
    have := cclr_19 (t.2.2.2 3 + 1) 0 (sN (x_uclr t) 5 (t.2.2.2 3)) c (fun j hj => absurd hj (by omega)) (by omega)
    refine ⟨this.1.trans ?_, this.2.trans ?_⟩
    · rw [sg_zero (fun i _ => by split <;> rfl), sg_zero (fun i _ => by split <;> rfl)]; rfl
    · rw [sg_zero (fun i _ => by split; rfl; exact Int64.zero_mul), sg_zero (fun i _ => by split; rfl; exact Int64.zero_mul)]; rfl
theorem gw_sm : ∀ (n i : Nat) (t : St) (K V : Nat → Int64), Sm t K V → i + n ≤ t.2.2.2 0 → (∀ j, i ≤ j → K j = 0) → (∀ j, j < i → K j = t.1 0 j) → ∃ K', Sm (x_gw n i t) K' V ∧ ∀ j, j < i + n → K' j = t.1 0 j
  | 0, i, t, K, V, h, _, _, h2 => ⟨K, h, h2⟩
  | n + 1, i, t, K, V, h, hn, h1, h2 => by
    have cf := CF.more i (t.1 0 i) t
    have e0 : (x_more i (t.1 0 i) t).1 0 = t.1 0 := cf.1 0 (by decide) (by decide) (by decide)
    obtain ⟨K', k1, k2⟩ := gw_sm n (i + 1) (x_more i (t.1 0 i) t) _ V (h.more (i := i) (by omega) (t.1 0 i)) (by rw [cf.2.2.1]; omega) (fun j hj => by rw [up_n (by omega)]; exact h1 j (by omega)) (fun j hj => by
      rw [e0]
      by_cases e : j = i
      · subst e; rw [up_s, h1 j (Nat.le_refl _), Int64.zero_add]
      · rw [up_n e]; exact h2 j (by omega))
    exact ⟨K', k1, fun j hj => by rw [k2 j (by omega), e0]⟩
theorem gt_sm : ∀ (n i : Nat) (t : St) (K V : Nat → Int64), Sm t K V → i + n ≤ t.2.2.2 1 → (∀ j, i ≤ j → V j = 0) → (∀ j, j < i → V j = t.1 9 j ∧ t.1 10 j = V j) → ∃ V', Sm (x_gt n i t) K V' ∧ ∀ j, j < i + n → V' j = t.1 9 j ∧ (x_gt n i t).1 10 j = V' j
  | 0, i, t, K, V, h, _, _, h2 => ⟨V, h, h2⟩
  | n + 1, i, t, K, V, h, hn, h1, h2 => by
    have cf := (CF.fillT i (t.1 9 i) (sL t 10 i 0)).tr (CF.sL 10 _ _ (by omega))
    have e9 : (x_fillT i (t.1 9 i) (sL t 10 i 0)).1 9 = t.1 9 := cf.1 9 (by decide) (by decide) (by decide)
    have g : Sm (sL t 10 i 0) K V := h.fr (fun j hj _ => sL_ne _ _ _ _ hj) rfl (fun _ _ _ => rfl)
    have g2 := g.fillT (i := i) (show i < t.2.2.2 1 by omega) (by rw [sL_at, if_pos rfl, h1 i (Nat.le_refl _)]) (t.1 9 i)
    obtain ⟨V', k1, k2⟩ := gt_sm n (i + 1) _ K _ g2 (by rw [cf.2.2.1]; omega) (fun j hj => by rw [up_n (by omega)]; exact h1 j (by omega)) (fun j hj => by
      rw [e9, fillT_10]
      by_cases e : j = i
      · subst e; rw [up_s, if_pos rfl]; exact ⟨rfl, rfl⟩
      · rw [up_n e, if_neg e, sL_at, if_neg e]; exact h2 j (by omega))
    refine ⟨V', k1, fun j hj => ?_⟩
    have := k2 j (by omega)
    rw [e9] at this
    exact this
theorem pw_10 : ∀ (n i : Nat) (t : St) (j : Nat), (y_pw n i t).1 10 j = if i ≤ j ∧ j < i + n then t.1 0 j else t.1 10 j
  | 0, i, t, j => by rw [y_pw, if_neg (by omega)]
  | n + 1, i, t, j => by
    rw [y_pw, pw_10 n (i + 1), sL_ne _ _ _ _ (show (0 : Nat) ≠ 10 by decide), sL_at]
    by_cases e : j = i
    · subst e; rw [if_neg (by omega), if_pos rfl, if_pos (by omega)]
    · rw [if_neg e]
      by_cases h : i + 1 ≤ j ∧ j < i + 1 + n
      · rw [if_pos h, if_pos (by omega)]
      · rw [if_neg h, if_neg (by omega)]
theorem pw_ne {q : Nat} (hq : q ≠ 10) : ∀ (n i : Nat) (t : St), (y_pw n i t).1 q = t.1 q
  | 0, _, _ => rfl
  | n + 1, i, t => by rw [y_pw, pw_ne hq n, sL_ne _ _ _ _ hq]
theorem pt_11 : ∀ (n i : Nat) (t : St) (j : Nat), (y_pt n i t).1 11 j = if i ≤ j ∧ j < i + n then t.1 9 j else t.1 11 j
  | 0, i, t, j => by rw [y_pt, if_neg (by omega)]
  | n + 1, i, t, j => by
    rw [y_pt, pt_11 n (i + 1), sL_ne _ _ _ _ (show (9 : Nat) ≠ 11 by decide), sL_at]
    by_cases e : j = i
    · subst e; rw [if_neg (by omega), if_pos rfl, if_pos (by omega)]
    · rw [if_neg e]
      by_cases h : i + 1 ≤ j ∧ j < i + 1 + n
      · rw [if_pos h, if_pos (by omega)]
      · rw [if_neg h, if_neg (by omega)]
theorem pt_ne {q : Nat} (hq : q ≠ 11) : ∀ (n i : Nat) (t : St), (y_pt n i t).1 q = t.1 q
  | 0, _, _ => rfl
  | n + 1, i, t => by rw [y_pt, pt_ne hq n, sL_ne _ _ _ _ hq]
theorem pre_10 (u : St) {i : Nat} (hi : i < u.2.2.2 1) : (y_pre u).1 10 i = u.1 0 i := by
  rw [y_pre, pt_ne (by decide), pw_10, if_pos (by omega)]
theorem pre_11 (u : St) {i : Nat} (hi : i < u.2.2.2 2) : (y_pre u).1 11 i = u.1 9 i := by
  rw [y_pre, pt_11, if_pos (by omega), pw_ne (by decide)]
theorem pre_12 (u : St) : (y_pre u).1 12 = u.1 12 := by rw [y_pre, pt_ne (by decide), pw_ne (by decide)]
theorem CB.gath {t u : St} (h : RR t u) : CB (x_gath t) t ∧ (x_gath t).1 18 = t.1 18 := by
  have c1 : CF (x_gath t) (x_g0 t) := (CF.gt _ _ _).tr (CF.gw _ _ _)
  have c2 : CF (x_g0 t) (sN (x_uclr t) 5 (t.2.2.2 3)) := CF.cclr _ _ _
  have c := c1.tr c2
  have n6 := x_gath_6 t
  refine ⟨⟨fun k h1 _ _ h3 h4 => c.1 k h1 h3 h4, fun i => by rw [c.1 18 (by decide) (by decide) (by decide)]; rfl, c.2.1, c.2.2.2.1, c.2.2.2.2, fun k hk => by rw [c.2.2.1]; exact if_neg hk, by rw [n6.2.2.2.2.2]; exact h.2.2.2.1.2.1⟩, c.1 18 (by decide) (by decide) (by decide)⟩
theorem SS.gath {t u : St} (h : RR t u) : SS 100000 (x_gath t) (y_pre u) := by
  have n6 := x_gath_6 t
  have en1 : (y_pre u).2.2.2 1 = t.2.2.2 0 := by rw [y_pre_2]; exact h.1.1
  have g0 : (x_g0 t).2.2.2 = va_up t.2.2.2 5 (t.2.2.2 3) := by rw [x_g0, x_cclr_N]; rfl
  have g00 : (x_g0 t).2.2.2 0 = t.2.2.2 0 := by rw [g0]; rfl
  have g01 : (x_gw (t.2.2.2 0) 0 (x_g0 t)).2.2.2 1 = t.2.2.2 1 := by rw [x_gw_N, g0]; rfl
  have c2 : CF (x_g0 t) (sN (x_uclr t) 5 (t.2.2.2 3)) := CF.cclr _ _ _
  have e0 : (x_g0 t).1 0 = t.1 0 := c2.1 0 (by decide) (by decide) (by decide)
  have e9 : (x_gw (t.2.2.2 0) 0 (x_g0 t)).1 9 = t.1 9 := ((CF.gw _ _ _).tr c2).1 9 (by decide) (by decide) (by decide)
  obtain ⟨K, k1, k2⟩ := gw_sm (t.2.2.2 0) 0 (x_g0 t) _ _ (Sm.zero t) (by omega) (fun _ _ => rfl) (fun j hj => absurd hj (by omega))
  obtain ⟨V, v1, v2⟩ := gt_sm (t.2.2.2 1) 0 (x_gw (t.2.2.2 0) 0 (x_g0 t)) K _ k1 (by omega) (fun _ _ => rfl) (fun j hj => absurd hj (by omega))
  rw [e0] at k2
  rw [e9] at v2
  have v1 : Sm (x_gath t) K V := v1
  have v2 : ∀ j, j < 0 + t.2.2.2 1 → V j = t.1 9 j ∧ (x_gath t).1 10 j = V j := v2
  have hw : ∀ i, i < t.2.2.2 0 → (y_pre u).1 10 i = t.1 0 i := fun i hi => (pre_10 u (by rw [h.1.1]; exact hi)).trans (h.1.2.2 i hi).1.1
  have ht : ∀ i, i < t.2.2.2 1 → (y_pre u).1 11 i = t.1 9 i := fun i hi => (pre_11 u (by rw [h.2.1.1]; exact hi)).trans (h.2.1.2.2.1 i hi).1.2.2.2.2.2
  refine ⟨h.fr (CB.gath h).1 (EqB.pre u).eb, n6.2.2.2.2.2.trans n6.2.2.2.1.symm, ?_, ?_, ?_, ?_⟩
  · refine v1.congr (fun i hi => ?_) (fun i hi => ?_)
    · rw [n6.1] at hi
      rw [hw i hi, k2 i (by omega)]
    · rw [n6.2.1] at hi
      rw [ht i hi, (v2 i (by omega)).1]
  · intro i hi
    rw [n6.2.1] at hi
    rw [ht i hi, (v2 i (by omega)).2, (v2 i (by omega)).1]
  · intro i hi
    rw [n6.1] at hi
    rw [hw i hi]; exact (h.1.2.2 i hi).2.1
  · intro i hi
    rw [n6.2.1] at hi
    rw [ht i hi]
    obtain ⟨_, g2, _, _, g5⟩ := h.2.1.2.2.1 i hi
    omega
theorem more_11 (i : Nat) (k : Int64) (t : St) : (x_more i k t).1 11 = t.1 11 := (CF.more i k t).1 11 (by decide) (by decide) (by decide)
theorem fillT_11 (i : Nat) (k : Int64) (t : St) : (x_fillT i k t).1 11 = t.1 11 := (CF.fillT i k t).1 11 (by decide) (by decide) (by decide)
theorem EB.sL {t : St} (k j : Nat) (v : Int64) (h : k = 10 ∨ k = 11 ∨ k = 12) : EB (sL t k j v) t := (EqB.sL k j v h).eb
theorem SS.stp {B : Int} {t u : St} (h : SS B t u) (hB0 : 0 ≤ B) (hB : B ≤ 2000000) {i : Nat} (hi : i < t.2.2.2 4) : SS (B + 100000) (x_stp i t) (y_stp i u) := by
  obtain ⟨⟨e1, e2, e19⟩, j, ej, hj⟩ := h.1.2.2.2.2.1.2.2 i hi
  have bw := h.1.1.2.1
  have bt := h.1.2.1.2.1
  have hjl : j < 2 ^ 31 := by rcases hj with ⟨_, q, _⟩ | ⟨_, q, _⟩ <;> omega
  unfold x_stp y_stp
  rw [e1, e2, e19, ej, nI_clamp hjl]
  rcases hj with ⟨hz, hjn, hk⟩ | ⟨hz, hjn, hk⟩
  · rw [if_pos hz, if_pos hz]
    have cf := CF.more j (t.1 17 i) t
    refine ⟨h.1.fr (cf.cb (more_11 _ _ _) h.1) (EB.sL 10 _ _ (Or.inl rfl)), by rw [cf.2.2.1]; exact h.2.1, ?_, ?_, ?_, ?_⟩
    · have g := h.2.2.1.more hjn (t.1 17 i)
      refine g.congr (fun q hq => ?_) (fun q hq => ?_)
      · rw [sL_at]
        by_cases e : q = j
        · subst e; rw [if_pos rfl, up_s]
        · rw [if_neg e, up_n e]
      · rw [sL_ne _ _ _ _ (by decide)]
    · intro q hq
      rw [cf.2.2.1] at hq
      rw [more_10, sL_ne _ _ _ _ (by decide)]; exact h.2.2.2.1 q hq
    · intro q hq
      rw [cf.2.2.1] at hq
      rw [sL_at]
      by_cases e : q = j
      · subst e; rw [if_pos rfl]; exact bd_add (h.2.2.2.2.1 q hq) hk (by omega)
      · rw [if_neg e]; exact bd_mono (h.2.2.2.2.1 q hq) (by omega)
    · intro q hq
      rw [cf.2.2.1] at hq
      rw [sL_ne _ _ _ _ (by decide)]; exact h.2.2.2.2.2 q hq
  · rw [if_neg hz, if_neg hz]
    have cf := CF.fillT j (t.1 17 i) t
    refine ⟨h.1.fr (cf.cb (fillT_11 _ _ _) h.1) (EB.sL 11 _ _ (Or.inr (Or.inl rfl))), by rw [cf.2.2.1]; exact h.2.1, ?_, ?_, ?_, ?_⟩
    · have g := h.2.2.1.fillT hjn (h.2.2.2.1 j hjn) (t.1 17 i)
      refine g.congr (fun q hq => ?_) (fun q hq => ?_)
      · rw [sL_ne _ _ _ _ (by decide)]
      · rw [sL_at]
        by_cases e : q = j
        · subst e; rw [if_pos rfl, up_s]
        · rw [if_neg e, up_n e]
    · intro q hq
      rw [cf.2.2.1] at hq
      rw [fillT_10, sL_at]
      by_cases e : q = j
      · rw [if_pos e, if_pos e]
      · rw [if_neg e, if_neg e]; exact h.2.2.2.1 q hq
    · intro q hq
      rw [cf.2.2.1] at hq
      rw [sL_ne _ _ _ _ (by decide)]; exact bd_mono (h.2.2.2.2.1 q hq) (by omega)
    · intro q hq
      rw [cf.2.2.1] at hq
      rw [sL_at]
      by_cases e : q = j
      · rw [if_pos e]; exact hk
      · rw [if_neg e]; exact h.2.2.2.2.2 q hq
theorem SS.sl : ∀ (n i : Nat) {B : Int} {t u : St}, SS B t u → 0 ≤ B → B + 100000 * n ≤ 2100000 → i + n ≤ t.2.2.2 4 → SS (B + 100000 * n) (x_sl n i t) (y_bb n i u)
  | 0, i, B, t, u, h, _, _, _ => h.mono (by omega)
  | n + 1, i, B, t, u, h, h0, h1, h2 => by
    have h3 := h.stp h0 (by omega) (i := i) (by omega)
    have := SS.sl n (i + 1) h3 (by omega) (by omega) (by rw [x_stp_N]; omega)
    exact this.mono (by omega)
theorem SS.ss {t u : St} (h : RR t u) {i : Nat} (hi : i < t.2.2.2 4) : SS 2100000 (x_sl (i + 1) 0 (x_gath t)) (y_bi i u) := by
  have n6 := x_gath_6 t
  have b := h.2.2.2.2.1.2.1
  have := SS.sl (i + 1) 0 (SS.gath h) (by decide) (by omega) (by rw [n6.2.2.2.2.1]; omega)
  exact this.mono (by omega)
theorem EB.sy {a b : St} (h : EB a b) : EB b a := ⟨fun k h1 h2 h3 => (h.1 k h1 h2 h3).symm, h.2.1.symm, h.2.2.1.symm, h.2.2.2.1.symm, fun k hk => (h.2.2.2.2 k hk).symm⟩
theorem Ag.sy {a b : St} (h : Ag a b) : Ag b a := ⟨h.1.sy, fun i hi => (h.2.1 i (by rw [← h.1.2.2.2.2 1 (by decide)]; exact hi)).symm, fun i hi => (h.2.2 i (by rw [← h.1.2.2.2.2 2 (by decide)]; exact hi)).symm⟩
theorem Ag.pre {a b : St} (h : EB a b) : Ag (y_pre a) (y_pre b) := by
  refine ⟨(EqB.pre a).eb.tr (h.tr (EqB.pre b).eb.sy), fun i hi => ?_, fun i hi => ?_⟩
  · rw [y_pre_2] at hi
    rw [pre_10 b hi, pre_10 a (by rw [h.2.2.2.2 1 (by decide)]; exact hi), h.1 0 (by decide) (by decide) (by decide)]
  · rw [y_pre_2] at hi
    rw [pre_11 b hi, pre_11 a (by rw [h.2.2.2.2 2 (by decide)]; exact hi), h.1 9 (by decide) (by decide) (by decide)]
theorem Ag.stp {a b : St} (h : Ag a b) (k : Nat) : Ag (y_stp k a) (y_stp k b) := by
  have hb : EB (y_stp k a) (y_stp k b) := (EqB.stp k a).eb.tr (h.1.tr (EqB.stp k b).eb.sy)
  have hN : (y_stp k b).2.2.2 = b.2.2.2 := (EqB.stp k b).2.2.2.2
  refine ⟨hb, fun i hi => ?_, fun i hi => ?_⟩
  · rw [hN] at hi
    unfold y_stp
    rw [h.1.2.1, h.1.1 19 (by decide) (by decide) (by decide)]
    by_cases hz : b.2.1 1 k = 0
    · rw [if_pos hz, if_pos hz, sL_at, sL_at]
      by_cases e : i = (b.2.1 2 k).toNatClampNeg
      · rw [if_pos e, if_pos e, h.2.1 _ (by rw [← e]; exact hi)]
      · rw [if_neg e, if_neg e]; exact h.2.1 i hi
    · rw [if_neg hz, if_neg hz, sL_ne _ _ _ _ (by decide), sL_ne _ _ _ _ (by decide)]; exact h.2.1 i hi
  · rw [hN] at hi
    unfold y_stp
    rw [h.1.2.1, h.1.1 19 (by decide) (by decide) (by decide)]
    by_cases hz : b.2.1 1 k = 0
    · rw [if_pos hz, if_pos hz, sL_ne _ _ _ _ (by decide), sL_ne _ _ _ _ (by decide)]; exact h.2.2 i hi
    · rw [if_neg hz, if_neg hz, sL_at, sL_at]
      by_cases e : i = (b.2.1 2 k).toNatClampNeg
      · rw [if_pos e, if_pos e]
      · rw [if_neg e, if_neg e]; exact h.2.2 i hi
theorem Ag.bb {a b : St} : ∀ (n i : Nat) {a b : St}, Ag a b → Ag (y_bb n i a) (y_bb n i b)
  | 0, _, _, _, h => h
  | n + 1, i, _, _, h => Ag.bb (a := a) (b := b) n (i + 1) (h.stp i)
theorem bb_snoc : ∀ (n i : Nat) (t : St), y_bb (n + 1) i t = y_stp (i + n) (y_bb n i t)
  | 0, i, t => rfl
  | n + 1, i, t => by
    rw [y_bb, bb_snoc n (i + 1), y_bb, show i + 1 + n = i + (n + 1) by omega]
theorem Ag.bt (k : Nat) (t : St) : Ag (y_bt k t) t := by
  refine ⟨(EqB.bt k t).eb, fun i _ => ?_, fun i _ => ?_⟩
  · unfold y_bt; split; split; rfl; rfl; rfl
  · unfold y_bt; split; split; rfl; rfl; rfl
theorem Ag.lb : ∀ (n i : Nat) (t : St), Ag (y_lb n i t).2 t
  | 0, _, t => Ag.rf t
  | n + 1, i, t => by rw [y_lb]; split; exact Ag.bt i t; exact (Ag.lb n (i + 1) _).tr (Ag.bt i t)
theorem SS.br : ∀ (n i : Nat) {t u : St}, SS (100000 * (i + 1)) t (y_bb i 0 (y_pre u)) → i + n ≤ t.2.2.2 4 → (x_br n i t).1 = (y_br n i u).1 ∧ RR (x_br n i t).2 (y_br n i u).2
  | 0, i, t, u, h, _ => ⟨rfl, h.1.fr (CB.rf h.1) ((EqB.bb _ _ _).tr (EqB.pre u)).eb.sy⟩
  | n + 1, i, t, u, h, hn => by
    have b := h.1.2.2.2.2.1.2.1
    have h1 : SS (100000 * (i + 1) + 100000) (x_stp i t) (y_bi i u) := by
      have := h.stp (by omega) (by omega) (i := i) (by omega)
      rw [y_bi, bb_snoc, Nat.zero_add]; exact this
    obtain ⟨k1, k2⟩ := h1.lbn (by omega)
    rw [x_br, y_br, k1]
    by_cases hz : y_bn (y_bi i u) = 0
    · rw [if_pos hz, if_pos hz]
      refine SS.br n (i + 1) ?_ ?_
      · have a1 : Ag (y_bs (y_bi i u)) (y_bi i u) := Ag.lb _ _ _
        have a2 : EB (y_bs (y_bi i u)) u := a1.1.tr (EqB.bi i u).eb
        have a3 : Ag (y_bb (i + 1) 0 (y_pre (y_bs (y_bi i u)))) (y_bi i u) := Ag.bb (a := u) (b := u) (i + 1) 0 (Ag.pre a2)
        exact (k2.fr (FF.rf _) (a3.tr a1.sy)).mono (by omega)
      · rw [x_lb_N, x_stp_N]; omega
    · rw [if_neg hz, if_neg hz]
      exact ⟨rfl, k2.1.fr (CB.rf k2.1) (EB.rf _)⟩
