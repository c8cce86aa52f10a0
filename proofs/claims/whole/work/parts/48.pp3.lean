/-! Pure: the relation between the class's state and the reference's -/
def RW (n m : Nat) (a0 a1 a2 a3 b0 b1 b2 b3 : Nat → Int64) : Prop := m = n ∧ n ≤ 40 ∧ ∀ i, i < n → (b0 i = a0 i ∧ b1 i = a1 i ∧ b2 i = a2 i ∧ b3 i = a3 i) ∧ bd (a0 i) 100000 ∧ bd (a1 i) 10000 ∧ bd (a2 i) 10000 ∧ bd (a3 i) 10000
def RT (n m : Nat) (a4 a5 a6 a7 a8 a9 b4 b5 b6 b7 b8 b9 : Nat → Int64) : Prop := m = n ∧ n ≤ 4 ∧ (∀ i, i < n → (b4 i = a4 i ∧ b5 i = a5 i ∧ b6 i = a6 i ∧ b7 i = a7 i ∧ b8 i = a8 i ∧ b9 i = a9 i) ∧ (4 ≤ (a4 i).toInt ∧ (a4 i).toInt ≤ 40000) ∧ (0 ≤ (a5 i).toInt ∧ (a5 i).toInt ≤ 1000000000) ∧ (bd (a6 i) 10000 ∧ bd (a7 i) 10000 ∧ bd (a8 i) 10000) ∧ 0 ≤ (a9 i).toInt ∧ (a9 i).toInt ≤ (a4 i).toInt) ∧ ∀ i, n ≤ i → a9 i = 0
def RB (n m : Nat) (a12 a13 a14 b13 b14 b15 : Nat → Int64) : Prop := m = n ∧ n ≤ 12 ∧ (∀ i, i < n → (b13 i = a12 i ∧ b14 i = a13 i ∧ b15 i = a14 i) ∧ (1 ≤ (a12 i).toInt ∧ (a12 i).toInt ≤ 5000000) ∧ bd (a13 i) 10000 ∧ bd (a14 i) 10000) ∧ ∀ i, i + 1 < n → (a12 i).toInt < (a12 (i + 1)).toInt
def RL (n m : Nat) (a0 b0 : Nat → Int32) (a15 a16 a18 b16 b17 b18 : Nat → Int64) : Prop := m = n ∧ n ≤ 10 ∧ ∀ i, i < n → (b0 i = a0 (i + 1) ∧ b16 i = a18 (i + 1) ∧ b17 i = a15 (i + 1) ∧ b18 i = a16 (i + 1)) ∧ (0 ≤ (a0 (i + 1)).toInt ∧ (a0 (i + 1)).toInt ≤ 9) ∧ bd (a18 (i + 1)) 10000
def RE (n m p q : Nat) (a1 a2 b1 b2 : Nat → Int32) (a17 b19 : Nat → Int64) : Prop := m = n ∧ n ≤ 20 ∧ ∀ i, i < n → (b1 i = a1 i ∧ b2 i = a2 i ∧ b19 i = a17 i) ∧ ∃ j, a2 i = nI j ∧ ((a1 i = 0 ∧ j < p ∧ bd (a17 i) 100000) ∨ (¬ a1 i = 0 ∧ j < q ∧ 0 ≤ (a17 i).toInt ∧ (a17 i).toInt ≤ 40000))
def RH (a0 a1 b0 b1 : Int64) : Prop := (b0 = a0 ∧ b1 = a1) ∧ bd a0 10000 ∧ bd a1 10000 ∧ a0.toInt < a1.toInt
def RR (t u : St) : Prop :=
  RW (t.2.2.2 0) (u.2.2.2 1) (t.1 0) (t.1 1) (t.1 2) (t.1 3) (u.1 0) (u.1 1) (u.1 2) (u.1 3) ∧
  RT (t.2.2.2 1) (u.2.2.2 2) (t.1 4) (t.1 5) (t.1 6) (t.1 7) (t.1 8) (t.1 9) (u.1 4) (u.1 5) (u.1 6) (u.1 7) (u.1 8) (u.1 9) ∧
  RB (t.2.2.2 2) (u.2.2.2 3) (t.1 12) (t.1 13) (t.1 14) (u.1 13) (u.1 14) (u.1 15) ∧
  RL (t.2.2.2 3) (u.2.2.2 4) (t.2.1 0) (u.2.1 0) (t.1 15) (t.1 16) (t.1 18) (u.1 16) (u.1 17) (u.1 18) ∧
  RE (t.2.2.2 4) (u.2.2.2 5) (t.2.2.2 0) (t.2.2.2 1) (t.2.1 1) (t.2.1 2) (u.2.1 1) (u.2.1 2) (t.1 17) (u.1 19) ∧
  RH (t.2.2.1 0) (t.2.2.1 1) (u.2.2.1 0) (u.2.2.1 1) ∧ t.2.2.2 5 ≤ 10
theorem RL.c18 {n m : Nat} {a0 b0 : Nat → Int32} {a15 a16 a18 a18' b16 b17 b18 : Nat → Int64} (h : RL n m a0 b0 a15 a16 a18 b16 b17 b18) (e : ∀ i, a18' (i + 1) = a18 (i + 1)) : RL n m a0 b0 a15 a16 a18' b16 b17 b18 :=
  ⟨h.1, h.2.1, fun i hi => by rw [e]; exact h.2.2 i hi⟩
/-- what of the class's state the relation does not see -/
def CB (a b : St) : Prop := (∀ k, k ≠ 10 → k ≠ 11 → k ≠ 18 → k ≠ 19 → k ≠ 20 → a.1 k = b.1 k) ∧ (∀ i, a.1 18 (i + 1) = b.1 18 (i + 1)) ∧ a.2.1 = b.2.1 ∧ a.2.2.1 0 = b.2.2.1 0 ∧ a.2.2.1 1 = b.2.2.1 1 ∧ (∀ k, k ≠ 5 → a.2.2.2 k = b.2.2.2 k) ∧ a.2.2.2 5 ≤ 10
def EB (a b : St) : Prop := (∀ k, k ≠ 10 → k ≠ 11 → k ≠ 12 → a.1 k = b.1 k) ∧ a.2.1 = b.2.1 ∧ a.2.2.1 0 = b.2.2.1 0 ∧ a.2.2.1 1 = b.2.2.1 1 ∧ ∀ k, k ≠ 0 → a.2.2.2 k = b.2.2.2 k
theorem EqB.eb {a b : St} (h : EqB a b) : EB a b := ⟨h.1, h.2.1, h.2.2.1, h.2.2.2.1, fun k _ => by rw [h.2.2.2.2]⟩
theorem EB.n0 (u : St) (k : Nat) : EB (sN u 0 k) u := ⟨fun _ _ _ _ => rfl, rfl, rfl, rfl, fun q hq => if_neg hq⟩
theorem EB.rf (u : St) : EB u u := ⟨fun _ _ _ _ => rfl, rfl, rfl, rfl, fun _ _ => rfl⟩
theorem EB.tr {a b c : St} (h : EB a b) (g : EB b c) : EB a c := ⟨fun k h1 h2 h3 => (h.1 k h1 h2 h3).trans (g.1 k h1 h2 h3), h.2.1.trans g.2.1, h.2.2.1.trans g.2.2.1, h.2.2.2.1.trans g.2.2.2.1, fun k hk => (h.2.2.2.2 k hk).trans (g.2.2.2.2 k hk)⟩
theorem CB.rf {t u : St} (h : RR t u) : CB t t := ⟨fun _ _ _ _ _ _ => rfl, fun _ => rfl, rfl, rfl, rfl, fun _ _ => rfl, h.2.2.2.2.2.2⟩
theorem RR.fr {t u t' u' : St} (h : RR t u) (a : CB t' t) (b : EB u' u) : RR t' u' := by
  obtain ⟨hL, h18, hI, f0, f1, hN, h5⟩ := a
  obtain ⟨gL, gI, g0, g1, gN⟩ := b
  unfold RR
  rw [hN 0 (by decide), hN 1 (by decide), hN 2 (by decide), hN 3 (by decide), hN 4 (by decide), gN 1 (by decide), gN 2 (by decide), gN 3 (by decide), gN 4 (by decide), gN 5 (by decide), hI, gI, f0, f1, g0, g1]
  rw [hL 0, hL 1, hL 2, hL 3, hL 4, hL 5, hL 6, hL 7, hL 8, hL 9, hL 12, hL 13, hL 14, hL 15, hL 16, hL 17]
  rw [gL 0, gL 1, gL 2, gL 3, gL 4, gL 5, gL 6, gL 7, gL 8, gL 9, gL 13, gL 14, gL 15, gL 16, gL 17, gL 18, gL 19]
  exact ⟨h.1, h.2.1, h.2.2.1, h.2.2.2.1.c18 h18, h.2.2.2.2.1, h.2.2.2.2.2.1, h5⟩
  all_goals decide
theorem RR.n0 {t u : St} (h : RR t u) (k : Nat) : RR t (sN u 0 k) := h.fr (CB.rf h) (EB.n0 u k)
theorem RE.mono {n m p q p' q' : Nat} {a1 a2 b1 b2 : Nat → Int32} {a17 b19 : Nat → Int64} (h : RE n m p q a1 a2 b1 b2 a17 b19) (hp : p ≤ p') (hq : q ≤ q') : RE n m p' q' a1 a2 b1 b2 a17 b19 :=
  ⟨h.1, h.2.1, fun i hi => by
    obtain ⟨h1, j, h2, h3⟩ := h.2.2 i hi
    refine ⟨h1, j, h2, ?_⟩
    rcases h3 with ⟨x, y, z⟩ | ⟨x, y, z⟩
    · exact Or.inl ⟨x, by omega, z⟩
    · exact Or.inr ⟨x, by omega, z⟩⟩
theorem uL_s (f : Nat → Int64) (k : Nat) (v : Int64) : vp_updL f k v k = v := if_pos rfl
theorem uL_n (f : Nat → Int64) {k j : Nat} (v : Int64) (h : j ≠ k) : vp_updL f k v j = f j := if_neg h
theorem uI_s (f : Nat → Int32) (k : Nat) (v : Int32) : upd f k v k = v := if_pos rfl
theorem uI_n (f : Nat → Int32) {k j : Nat} (v : Int32) (h : j ≠ k) : upd f k v j = f j := if_neg h
theorem in_ti {x a b : Int64} (h : x_in x a b) : a.toInt ≤ x.toInt ∧ x.toInt ≤ b.toInt := ⟨Int64.le_iff_toInt_le.mp h.1, Int64.le_iff_toInt_le.mp h.2⟩
theorem RW.app {n m : Nat} {a0 a1 a2 a3 b0 b1 b2 b3 : Nat → Int64} (h : RW n m a0 a1 a2 a3 b0 b1 b2 b3) (hn : n < 40) {x0 x1 x2 x3 : Int64} (ok : okW x0 x1 x2 x3) :
    RW (n + 1) (m + 1) (vp_updL a0 n x0) (vp_updL a1 n x1) (vp_updL a2 n x2) (vp_updL a3 n x3) (vp_updL b0 m x0) (vp_updL b1 m x1) (vp_updL b2 m x2) (vp_updL b3 m x3) := by
  obtain ⟨rfl, h1, h2⟩ := h
  refine ⟨rfl, by omega, fun i hi => ?_⟩
  by_cases e : i = m
  · subst e
    simp only [uL_s]
    exact ⟨by simp, bd_in ok.1 (by decide) (by decide), bd_pl ok.2.2.1, bd_pl ok.2.2.2.1, bd_pl ok.2.2.2.2⟩
  · simp only [uL_n _ _ e]
    exact h2 i (by omega)
theorem RT.app {n m : Nat} {a4 a5 a6 a7 a8 a9 b4 b5 b6 b7 b8 b9 : Nat → Int64} (h : RT n m a4 a5 a6 a7 a8 a9 b4 b5 b6 b7 b8 b9) (hn : n < 4) {x4 x5 x6 x7 x8 : Int64} (ok : okT x4 x5 x6 x7 x8) :
    RT (n + 1) (m + 1) (vp_updL a4 n x4) (vp_updL a5 n x5) (vp_updL a6 n x6) (vp_updL a7 n x7) (vp_updL a8 n x8) a9 (vp_updL b4 m x4) (vp_updL b5 m x5) (vp_updL b6 m x6) (vp_updL b7 m x7) (vp_updL b8 m x8) (vp_updL b9 m 0) := by
  obtain ⟨rfl, h1, h2, h3⟩ := h
  refine ⟨rfl, by omega, fun i hi => ?_, fun i hi => h3 i (by omega)⟩
  by_cases e : i = m
  · subst e
    have e9 := h3 i (by omega)
    have m4 := in_ti ok.1
    have m5 := in_ti ok.2.2.1
    rw [show (4 : Int64).toInt = 4 from rfl, show (40000 : Int64).toInt = 40000 from rfl] at m4
    rw [ti_0, show (1000000000 : Int64).toInt = 1000000000 from rfl] at m5
    simp only [uL_s]
    rw [e9, ti_0]
    exact ⟨by simp, m4, m5, ⟨bd_pl ok.2.2.2.1, bd_pl ok.2.2.2.2.1, bd_pl ok.2.2.2.2.2⟩, by omega, by omega⟩
  · simp only [uL_n _ _ e]
    exact h2 i (by omega)
theorem RT.fill {n m : Nat} {a4 a5 a6 a7 a8 a9 b4 b5 b6 b7 b8 b9 : Nat → Int64} (h : RT n m a4 a5 a6 a7 a8 a9 b4 b5 b6 b7 b8 b9) {j : Nat} (hj : j < n) {x : Int64} (ok : x_in x 0 (a4 j)) :
    RT n m a4 a5 a6 a7 a8 (vp_updL a9 j x) b4 b5 b6 b7 b8 (vp_updL b9 j x) := by
  obtain ⟨rfl, h1, h2, h3⟩ := h
  refine ⟨rfl, h1, fun i hi => ?_, fun i hi => by rw [uL_n _ _ (by omega)]; exact h3 i hi⟩
  obtain ⟨g1, g2, g3, g4, g5⟩ := h2 i hi
  by_cases e : i = j
  · subst e
    have m4 := in_ti ok
    rw [ti_0] at m4
    simp only [uL_s]
    exact ⟨⟨g1.1, g1.2.1, g1.2.2.1, g1.2.2.2.1, g1.2.2.2.2.1, by trivial⟩, g2, g3, g4, m4⟩
  · simp only [uL_n _ _ e]
    exact ⟨g1, g2, g3, g4, g5⟩
theorem RB.app {n m : Nat} {a12 a13 a14 b13 b14 b15 : Nat → Int64} (h : RB n m a12 a13 a14 b13 b14 b15) (hn : n < 12) {x y z : Int64} (o1 : x_in x 1 5000000) (o2 : x_pl y) (o3 : x_pl z) (o4 : n ≠ 0 → a12 (n - 1) < x) :
    RB (n + 1) (m + 1) (vp_updL a12 n x) (vp_updL a13 n y) (vp_updL a14 n z) (vp_updL b13 m x) (vp_updL b14 m y) (vp_updL b15 m z) := by
  obtain ⟨rfl, h1, h2, h3⟩ := h
  refine ⟨rfl, by omega, fun i hi => ?_, fun i hi => ?_⟩
  · by_cases e : i = m
    · subst e
      simp only [uL_s]
      have m1 := in_ti o1
      exact ⟨by simp, m1, bd_pl o2, bd_pl o3⟩
    · simp only [uL_n _ _ e]
      exact h2 i (by omega)
  · by_cases e : i + 1 = m
    · subst e
      rw [uL_s, uL_n _ _ (by omega)]
      exact Int64.lt_iff_toInt_lt.mp (o4 (by omega))
    · rw [uL_n _ _ (by omega), uL_n _ _ (by omega)]
      exact h3 i (by omega)
theorem RL.app {n m : Nat} {a0 b0 : Nat → Int32} {a15 a16 a18 b16 b17 b18 : Nat → Int64} (h : RL n m a0 b0 a15 a16 a18 b16 b17 b18) (hn : n < 10) {w : Int32} {x a b : Int64} (ok : okL w x a b) :
    RL (n + 1) (m + 1) (upd a0 (n + 1) w) (upd b0 m w) (vp_updL a15 (n + 1) a) (vp_updL a16 (n + 1) b) (vp_updL a18 (n + 1) x) (vp_updL b16 m x) (vp_updL b17 m a) (vp_updL b18 m b) := by
  obtain ⟨rfl, h1, h2⟩ := h
  refine ⟨rfl, by omega, fun i hi => ?_⟩
  by_cases e : i = m
  · subst e
    simp only [uL_s, uI_s]
    have w1 := ok.1; have w2 := ok.2.1
    rw [Int32.lt_iff_toInt_lt, show (0 : Int32).toInt = 0 from rfl] at w1
    rw [Int32.lt_iff_toInt_lt, show (9 : Int32).toInt = 9 from rfl] at w2
    exact ⟨by simp, ⟨by omega, by omega⟩, bd_pl ok.2.2.2.2.2⟩
  · simp only [uL_n _ _ e, uI_n _ _ e, uL_n _ _ (show i + 1 ≠ m + 1 by omega), uI_n _ _ (show i + 1 ≠ m + 1 by omega)]
    exact h2 i (by omega)
theorem RE.app {n m p q : Nat} {a1 a2 b1 b2 : Nat → Int32} {a17 b19 : Nat → Int64} (h : RE n m p q a1 a2 b1 b2 a17 b19) (hn : n < 20) {a b : Int32} {c : Int64} {j : Nat} (e2 : b = nI j) (hc : (a = 0 ∧ j < p ∧ bd c 100000) ∨ (¬ a = 0 ∧ j < q ∧ 0 ≤ c.toInt ∧ c.toInt ≤ 40000)) :
    RE (n + 1) (m + 1) p q (upd a1 n a) (upd a2 n b) (upd b1 m a) (upd b2 m b) (vp_updL a17 n c) (vp_updL b19 m c) := by
  obtain ⟨rfl, h1, h2⟩ := h
  refine ⟨rfl, by omega, fun i hi => ?_⟩
  by_cases e : i = m
  · subst e
    simp only [uL_s, uI_s]
    exact ⟨by simp, j, e2, hc⟩
  · simp only [uL_n _ _ e, uI_n _ _ e]
    exact h2 i (by omega)
theorem RR_0 : RR t0S t0M := by
  refine ⟨⟨rfl, by decide, fun i hi => absurd hi (Nat.not_lt_zero i)⟩, ⟨rfl, by decide, fun i hi => absurd hi (Nat.not_lt_zero i), fun _ _ => rfl⟩, ⟨rfl, by decide, fun i hi => absurd hi (Nat.not_lt_zero i), fun i hi => absurd hi (Nat.not_lt_zero _)⟩, ⟨rfl, by decide, fun i hi => absurd hi (Nat.not_lt_zero i)⟩, ⟨rfl, by decide, fun i hi => absurd hi (Nat.not_lt_zero i)⟩, ⟨⟨rfl, rfl⟩, ?_, ?_, ?_⟩, by decide⟩
  · show bd 0 10000; decide
  · show bd 10000 10000; decide
  · show (0 : Int64).toInt < (10000 : Int64).toInt; decide
