/-! Pure: the class's sums are sums over what is there now -/
theorem sL_at (t : St) (k j : Nat) (v : Int64) (i : Nat) : (sL t k j v).1 k i = if i = j then v else t.1 k i := by
  show (va_up t.1 k (vp_updL (t.1 k) j v)) k i = _
  simp [va_up, vp_updL]
theorem sL_ne (t : St) (k j : Nat) (v : Int64) {q : Nat} (h : q ≠ k) : (sL t k j v).1 q = t.1 q := if_neg h
def Sm (t : St) (K V : Nat → Int64) : Prop :=
  t.2.2.1 2 = sg K (t.2.2.2 0) + sg V (t.2.2.2 1) ∧
  t.2.2.1 3 = sg (fun i => K i * t.1 1 i) (t.2.2.2 0) + sg (fun i => V i * t.1 6 i) (t.2.2.2 1) ∧
  t.2.2.1 4 = sg (fun i => K i * t.1 2 i) (t.2.2.2 0) + sg (fun i => V i * t.1 7 i) (t.2.2.2 1) ∧
  t.2.2.1 5 = sg (fun i => K i * t.1 3 i) (t.2.2.2 0) + sg (fun i => V i * t.1 8 i) (t.2.2.2 1) ∧
  t.2.2.1 6 = sg (fun i => x_surf t i (V i)) (t.2.2.2 1) ∧
  ∀ c, c ≤ t.2.2.2 5 → t.1 19 c = sg (fun i => if t.1 18 c ≤ t.1 1 i then 0 else K i) (t.2.2.2 0) + sg (fun i => if t.1 18 c ≤ t.1 6 i then 0 else V i) (t.2.2.2 1) ∧
    t.1 20 c = sg (fun i => if t.1 18 c ≤ t.1 1 i then 0 else K i * (t.1 18 c - t.1 1 i)) (t.2.2.2 0) + sg (fun i => if t.1 18 c ≤ t.1 6 i then 0 else V i * (t.1 18 c - t.1 6 i)) (t.2.2.2 1)
theorem pl2 {a b c d : Int64} (h : a = b) (g : c = d) : a + c = b + d := by rw [h, g]
theorem Sm.congr {t : St} {K V K' V' : Nat → Int64} (h : Sm t K V) (hK : ∀ i, i < t.2.2.2 0 → K' i = K i) (hV : ∀ i, i < t.2.2.2 1 → V' i = V i) : Sm t K' V' := by
  obtain ⟨h1, h2, h3, h4, h5, h6⟩ := h
  have a : ∀ (F : Nat → Int64 → Int64), sg (fun i => F i (K' i)) (t.2.2.2 0) = sg (fun i => F i (K i)) (t.2.2.2 0) := fun F => sg_congr (fun i hi => by show F i (K' i) = F i (K i); rw [hK i hi])
  have b : ∀ (F : Nat → Int64 → Int64), sg (fun i => F i (V' i)) (t.2.2.2 1) = sg (fun i => F i (V i)) (t.2.2.2 1) := fun F => sg_congr (fun i hi => by show F i (V' i) = F i (V i); rw [hV i hi])
  refine ⟨?_, ?_, ?_, ?_, ?_, fun c hc => ⟨?_, ?_⟩⟩
  · rw [h1]; exact (pl2 (a fun _ x => x) (b fun _ x => x)).symm
  · rw [h2]; exact (pl2 (a fun i x => x * t.1 1 i) (b fun i x => x * t.1 6 i)).symm
  · rw [h3]; exact (pl2 (a fun i x => x * t.1 2 i) (b fun i x => x * t.1 7 i)).symm
  · rw [h4]; exact (pl2 (a fun i x => x * t.1 3 i) (b fun i x => x * t.1 8 i)).symm
  · rw [h5]; exact (b fun i x => x_surf t i x).symm
  · rw [(h6 c hc).1]; exact (pl2 (a fun i x => if t.1 18 c ≤ t.1 1 i then 0 else x) (b fun i x => if t.1 18 c ≤ t.1 6 i then 0 else x)).symm
  · rw [(h6 c hc).2]; exact (pl2 (a fun i x => if t.1 18 c ≤ t.1 1 i then 0 else x * (t.1 18 c - t.1 1 i)) (b fun i x => if t.1 18 c ≤ t.1 6 i then 0 else x * (t.1 18 c - t.1 6 i))).symm
/-- what the sums' making leaves as it was -/
def CF (a b : St) : Prop := (∀ j, j ≠ 10 → j ≠ 19 → j ≠ 20 → a.1 j = b.1 j) ∧ a.2.1 = b.2.1 ∧ a.2.2.2 = b.2.2.2 ∧ a.2.2.1 0 = b.2.2.1 0 ∧ a.2.2.1 1 = b.2.2.1 1
theorem CF.rf (a : St) : CF a a := ⟨fun _ _ _ _ => rfl, rfl, rfl, rfl, rfl⟩
theorem CF.tr {a b c : St} (h : CF a b) (g : CF b c) : CF a c := ⟨fun j h1 h2 h3 => (h.1 j h1 h2 h3).trans (g.1 j h1 h2 h3), h.2.1.trans g.2.1, h.2.2.1.trans g.2.2.1, h.2.2.2.1.trans g.2.2.2.1, h.2.2.2.2.trans g.2.2.2.2⟩
theorem CF.sL {t : St} (k j : Nat) (v : Int64) (h : k = 10 ∨ k = 19 ∨ k = 20) : CF (sL t k j v) t := ⟨fun q h1 h2 h3 => if_neg (by omega), rfl, rfl, rfl, rfl⟩
theorem CF.sF {t : St} (k : Nat) (v : Int64) (h : ¬ 0 = k) (h1 : ¬ 1 = k) : CF (sF t k v) t := ⟨fun _ _ _ _ => rfl, rfl, rfl, if_neg h, if_neg h1⟩
theorem CF.cadd (k x : Int64) : ∀ (n i : Nat) (t : St), CF (x_cadd k x n i t) t
  | 0, _, t => CF.rf t
  | n + 1, i, t => by
    rw [x_cadd]; refine (CF.cadd k x n _ _).tr ?_
    split
    · exact (CF.sL 20 _ _ (by omega)).tr (CF.sL 19 _ _ (by omega))
    · exact CF.rf t
theorem cadd_F (k x : Int64) : ∀ (n i : Nat) (t : St), (x_cadd k x n i t).2.2.1 = t.2.2.1
  | 0, _, _ => rfl
  | n + 1, i, t => by rw [x_cadd, cadd_F k x n]; split <;> rfl
theorem cadd_10 (k x : Int64) : ∀ (n i : Nat) (t : St), (x_cadd k x n i t).1 10 = t.1 10
  | 0, _, _ => rfl
  | n + 1, i, t => by
    rw [x_cadd, cadd_10 k x n]; split
    · rw [sL_ne _ _ _ _ (by decide), sL_ne _ _ _ _ (by decide)]
    · rfl
theorem cadd_19 (k x : Int64) : ∀ (n i : Nat) (t : St) (c : Nat), (x_cadd k x n i t).1 19 c = if i ≤ c ∧ c < i + n ∧ x < t.1 18 c then t.1 19 c + k else t.1 19 c
  | 0, i, t, c => by rw [x_cadd, if_neg (by omega)]
  | n + 1, i, t, c => by
    rw [x_cadd, cadd_19 k x n]
    by_cases hx : x < t.1 18 i
    · rw [if_pos hx, sL_ne _ _ _ _ (show (18 : Nat) ≠ 20 by decide), sL_ne _ _ _ _ (show (18 : Nat) ≠ 19 by decide), sL_ne _ _ _ _ (show (19 : Nat) ≠ 20 by decide), sL_at]
      by_cases hc : c = i
      · subst hc; rw [if_neg (by omega), if_pos rfl, if_pos ⟨by omega, by omega, hx⟩]
      · rw [if_neg hc]
        by_cases h2 : i + 1 ≤ c ∧ c < i + 1 + n ∧ x < t.1 18 c
        · rw [if_pos h2, if_pos ⟨by omega, by omega, h2.2.2⟩]
        · rw [if_neg h2, if_neg (fun z => h2 ⟨by omega, by omega, z.2.2⟩)]
    · rw [if_neg hx]
      by_cases hc : c = i
      · subst hc; rw [if_neg (by omega), if_neg (fun z => hx z.2.2)]
      · by_cases h2 : i + 1 ≤ c ∧ c < i + 1 + n ∧ x < t.1 18 c
        · rw [if_pos h2, if_pos ⟨by omega, by omega, h2.2.2⟩]
        · rw [if_neg h2, if_neg (fun z => h2 ⟨by omega, by omega, z.2.2⟩)]
theorem cadd_20 (k x : Int64) : ∀ (n i : Nat) (t : St) (c : Nat), (x_cadd k x n i t).1 20 c = if i ≤ c ∧ c < i + n ∧ x < t.1 18 c then t.1 20 c + k * (t.1 18 c - x) else t.1 20 c
  | 0, i, t, c => by rw [x_cadd, if_neg (by omega)]
  | n + 1, i, t, c => by
    rw [x_cadd, cadd_20 k x n]
    by_cases hx : x < t.1 18 i
    · rw [if_pos hx, sL_ne _ _ _ _ (show (18 : Nat) ≠ 20 by decide), sL_ne _ _ _ _ (show (18 : Nat) ≠ 19 by decide), sL_at, sL_ne _ _ _ _ (show (20 : Nat) ≠ 19 by decide)]
      by_cases hc : c = i
      · subst hc; rw [if_neg (by omega), if_pos rfl, if_pos ⟨by omega, by omega, hx⟩]
      · rw [if_neg hc]
        by_cases h2 : i + 1 ≤ c ∧ c < i + 1 + n ∧ x < t.1 18 c
        · rw [if_pos h2, if_pos ⟨by omega, by omega, h2.2.2⟩]
        · rw [if_neg h2, if_neg (fun z => h2 ⟨by omega, by omega, z.2.2⟩)]
    · rw [if_neg hx]
      by_cases hc : c = i
      · subst hc; rw [if_neg (by omega), if_neg (fun z => hx z.2.2)]
      · by_cases h2 : i + 1 ≤ c ∧ c < i + 1 + n ∧ x < t.1 18 c
        · rw [if_pos h2, if_pos ⟨by omega, by omega, h2.2.2⟩]
        · rw [if_neg h2, if_neg (fun z => h2 ⟨by omega, by omega, z.2.2⟩)]
theorem CF.uadd (k x y z : Int64) (t : St) : CF (x_uadd k x y z t) t := by
  unfold x_uadd
  exact (((CF.sF 5 _ (by decide) (by decide)).tr (CF.sF 4 _ (by decide) (by decide))).tr (CF.sF 3 _ (by decide) (by decide))).tr (CF.sF 2 _ (by decide) (by decide))
theorem CF.more (i : Nat) (k : Int64) (t : St) : CF (x_more i k t) t := (CF.cadd _ _ _ _ _).tr (CF.uadd _ _ _ _ _)
theorem CF.fillT (i : Nat) (k : Int64) (t : St) : CF (x_fillT i k t) t := by
  unfold x_fillT; split
  · exact CF.rf t
  · exact (CF.sL 10 _ _ (by omega)).tr ((CF.cadd _ _ _ _ _).tr ((CF.uadd _ _ _ _ _).tr ((CF.sF 6 _ (by decide) (by decide)).tr (CF.sF 6 _ (by decide) (by decide)))))
/-- k more at the place x: the sums with one summand moved -/
theorem Sm.add {t : St} {K V K' V' : Nat → Int64} {k x y z : Int64} {t1 : St} (h : Sm t K V) (h1 : t1.1 = t.1) (hN : t1.2.2.2 = t.2.2.2)
    (f2 : t1.2.2.1 2 = t.2.2.1 2) (f3 : t1.2.2.1 3 = t.2.2.1 3) (f4 : t1.2.2.1 4 = t.2.2.1 4) (f5 : t1.2.2.1 5 = t.2.2.1 5)
    (d0 : sg K' (t.2.2.2 0) + sg V' (t.2.2.2 1) = sg K (t.2.2.2 0) + sg V (t.2.2.2 1) + k)
    (d1 : sg (fun i => K' i * t.1 1 i) (t.2.2.2 0) + sg (fun i => V' i * t.1 6 i) (t.2.2.2 1) = sg (fun i => K i * t.1 1 i) (t.2.2.2 0) + sg (fun i => V i * t.1 6 i) (t.2.2.2 1) + k * x)
    (d2 : sg (fun i => K' i * t.1 2 i) (t.2.2.2 0) + sg (fun i => V' i * t.1 7 i) (t.2.2.2 1) = sg (fun i => K i * t.1 2 i) (t.2.2.2 0) + sg (fun i => V i * t.1 7 i) (t.2.2.2 1) + k * y)
    (d3 : sg (fun i => K' i * t.1 3 i) (t.2.2.2 0) + sg (fun i => V' i * t.1 8 i) (t.2.2.2 1) = sg (fun i => K i * t.1 3 i) (t.2.2.2 0) + sg (fun i => V i * t.1 8 i) (t.2.2.2 1) + k * z)
    (d6 : t1.2.2.1 6 = sg (fun i => x_surf t i (V' i)) (t.2.2.2 1))
    (dc : ∀ p : Int64, sg (fun i => if p ≤ t.1 1 i then 0 else K' i) (t.2.2.2 0) + sg (fun i => if p ≤ t.1 6 i then 0 else V' i) (t.2.2.2 1) = sg (fun i => if p ≤ t.1 1 i then 0 else K i) (t.2.2.2 0) + sg (fun i => if p ≤ t.1 6 i then 0 else V i) (t.2.2.2 1) + (if p ≤ x then 0 else k))
    (dt : ∀ p : Int64, sg (fun i => if p ≤ t.1 1 i then 0 else K' i * (p - t.1 1 i)) (t.2.2.2 0) + sg (fun i => if p ≤ t.1 6 i then 0 else V' i * (p - t.1 6 i)) (t.2.2.2 1) = sg (fun i => if p ≤ t.1 1 i then 0 else K i * (p - t.1 1 i)) (t.2.2.2 0) + sg (fun i => if p ≤ t.1 6 i then 0 else V i * (p - t.1 6 i)) (t.2.2.2 1) + (if p ≤ x then 0 else k * (p - x))) :
    Sm (x_cutsAdd k x (x_uadd k x y z t1)) K' V' := by
  obtain ⟨g1, g2, g3, g4, g5, g6⟩ := h
  have hF : (x_cutsAdd k x (x_uadd k x y z t1)).2.2.1 = (x_uadd k x y z t1).2.2.1 := cadd_F _ _ _ _ _
  have hNN : (x_cutsAdd k x (x_uadd k x y z t1)).2.2.2 = t.2.2.2 := (x_cutsAdd_N _ _ _).trans hN
  have hL : ∀ j, j ≠ 10 → j ≠ 19 → j ≠ 20 → (x_cutsAdd k x (x_uadd k x y z t1)).1 j = t.1 j := fun j a b c => ((CF.cadd k x _ _ (x_uadd k x y z t1)).1 j a b c).trans (((CF.uadd k x y z t1).1 j a b c).trans (congrFun h1 j))
  have e18 := hL 18 (by decide) (by decide) (by decide)
  refine ⟨?_, ?_, ?_, ?_, ?_, fun c hc => ?_⟩
  · rw [hF, hNN, d0]; show t1.2.2.1 2 + k = _; rw [f2, g1]
  · rw [hF, hNN, hL 1 (by decide) (by decide) (by decide), hL 6 (by decide) (by decide) (by decide), d1]; show t1.2.2.1 3 + k * x = _; rw [f3, g2]
  · rw [hF, hNN, hL 2 (by decide) (by decide) (by decide), hL 7 (by decide) (by decide) (by decide), d2]; show t1.2.2.1 4 + k * y = _; rw [f4, g3]
  · rw [hF, hNN, hL 3 (by decide) (by decide) (by decide), hL 8 (by decide) (by decide) (by decide), d3]; show t1.2.2.1 5 + k * z = _; rw [f5, g4]
  · rw [hF, hNN]; show t1.2.2.1 6 = _
    rw [d6]
    exact sg_congr (fun i _ => by simp only [x_surf, x_slack]; rw [hL 4 (by decide) (by decide) (by decide), hL 5 (by decide) (by decide) (by decide)])
  · rw [hNN] at hc ⊢
    rw [hL 1 (by decide) (by decide) (by decide), hL 6 (by decide) (by decide) (by decide), e18, dc, dt]
    have hu18 : (x_uadd k x y z t1).1 = t.1 := h1
    have hn5 : (x_uadd k x y z t1).2.2.2 5 = t.2.2.2 5 := congrFun hN 5
    have c19 : (x_cutsAdd k x (x_uadd k x y z t1)).1 19 c = if 0 ≤ c ∧ c < 0 + (t.2.2.2 5 + 1) ∧ x < t.1 18 c then t.1 19 c + k else t.1 19 c := by
      rw [x_cutsAdd, hn5, cadd_19, hu18]
    have c20 : (x_cutsAdd k x (x_uadd k x y z t1)).1 20 c = if 0 ≤ c ∧ c < 0 + (t.2.2.2 5 + 1) ∧ x < t.1 18 c then t.1 20 c + k * (t.1 18 c - x) else t.1 20 c := by
      rw [x_cutsAdd, hn5, cadd_20, hu18]
    rw [c19, c20, ← (g6 c hc).1, ← (g6 c hc).2]
    by_cases hx : t.1 18 c ≤ x
    · rw [if_pos hx, if_pos hx, if_neg (fun q => absurd hx (Int64.not_le.mpr q.2.2)), if_neg (fun q => absurd hx (Int64.not_le.mpr q.2.2))]
      constructor <;> grind
    · rw [if_neg hx, if_neg hx, if_pos ⟨by omega, by omega, Int64.not_le.mp hx⟩, if_pos ⟨by omega, by omega, Int64.not_le.mp hx⟩]
      exact ⟨rfl, rfl⟩
theorem up_s {f : Nat → Int64} {i : Nat} {v : Int64} : va_up f i v i = v := if_pos rfl
theorem up_n {f : Nat → Int64} {i j : Nat} {v : Int64} (h : j ≠ i) : va_up f i v j = f j := if_neg h
theorem sg_one {G : Nat → Int64 → Int64} {K : Nat → Int64} {i n : Nat} {v : Int64} (hi : i < n) : sg (fun j => G j (va_up K i v j)) n = sg (fun j => G j (K j)) n + (G i v - G i (K i)) := by
  have := sg_up (f := fun j => G j (K j)) (g := fun j => G j (va_up K i v j)) (i := i) (fun j hj => by show G j _ = G j _; rw [up_n hj]) hi
  rw [this]
  show _ + (G i (va_up K i v i) - _) = _
  rw [up_s]
theorem Sm.more {t : St} {K V : Nat → Int64} (h : Sm t K V) {i : Nat} (hi : i < t.2.2.2 0) (k : Int64) : Sm (x_more i k t) (va_up K i (K i + k)) V := by
  refine Sm.add (K := K) (V := V) (t := t) h rfl rfl rfl rfl rfl rfl ?_ ?_ ?_ ?_ h.2.2.2.2.1 (fun p => ?_) (fun p => ?_)
  · rw [sg_one (G := fun _ x => x) hi]; grind
  · rw [sg_one (G := fun j x => x * t.1 1 j) hi]; grind
  · rw [sg_one (G := fun j x => x * t.1 2 j) hi]; grind
  · rw [sg_one (G := fun j x => x * t.1 3 j) hi]; grind
  · rw [sg_one (G := fun j x => if p ≤ t.1 1 j then 0 else x) hi]
    by_cases hp : p ≤ t.1 1 i
    · simp only [if_pos hp]; grind
    · simp only [if_neg hp]; grind
  · rw [sg_one (G := fun j x => if p ≤ t.1 1 j then 0 else x * (p - t.1 1 j)) hi]
    by_cases hp : p ≤ t.1 1 i
    · simp only [if_pos hp]; grind
    · simp only [if_neg hp]; grind
theorem Sm.fr {t t1 : St} {K V : Nat → Int64} (h : Sm t K V) (hL : ∀ j, j ≠ 10 → j ≠ 11 → t1.1 j = t.1 j) (hN : t1.2.2.2 = t.2.2.2) (hF : ∀ k, 2 ≤ k → k ≤ 6 → t1.2.2.1 k = t.2.2.1 k) : Sm t1 K V := by
  unfold Sm at *
  simp only [x_surf, x_slack] at *
  rw [hN, hF 2 (by omega) (by omega), hF 3 (by omega) (by omega), hF 4 (by omega) (by omega), hF 5 (by omega) (by omega), hF 6 (by omega) (by omega), hL 1 (by decide) (by decide), hL 2 (by decide) (by decide), hL 3 (by decide) (by decide), hL 4 (by decide) (by decide), hL 5 (by decide) (by decide), hL 6 (by decide) (by decide), hL 7 (by decide) (by decide), hL 8 (by decide) (by decide), hL 18 (by decide) (by decide), hL 19 (by decide) (by decide), hL 20 (by decide) (by decide)]
  exact h
theorem Sm.fillT {t : St} {K V : Nat → Int64} (h : Sm t K V) {i : Nat} (hi : i < t.2.2.2 1) (hv : t.1 10 i = V i) (k : Int64) : Sm (x_fillT i k t) K (va_up V i k) := by
  unfold x_fillT
  by_cases h0 : k - t.1 10 i = 0
  · rw [if_pos h0]
    refine h.congr (fun _ _ => rfl) (fun j _ => ?_)
    by_cases e : j = i
    · subst e; rw [up_s]; rw [← hv]; grind
    · rw [up_n e]
  · rw [if_neg h0, hv]
    suffices key : Sm (x_cutsAdd (k - V i) (t.1 6 i) (x_uadd (k - V i) (t.1 6 i) (t.1 7 i) (t.1 8 i) (sF (sF t 6 (t.2.2.1 6 - x_surf t i (V i))) 6 (t.2.2.1 6 - x_surf t i (V i) + x_surf t i k)))) K (va_up V i k) from Sm.fr key (fun j h1 _ => sL_ne _ _ _ _ h1) rfl (fun _ _ _ => rfl)
    refine Sm.add (K := K) (V := V) (t := t) h rfl rfl rfl rfl rfl rfl ?_ ?_ ?_ ?_ ?_ (fun p => ?_) (fun p => ?_)
    · rw [sg_one (G := fun _ x => x) hi]; grind
    · rw [sg_one (G := fun j x => x * t.1 6 j) hi]; grind
    · rw [sg_one (G := fun j x => x * t.1 7 j) hi]; grind
    · rw [sg_one (G := fun j x => x * t.1 8 j) hi]; grind
    · show t.2.2.1 6 - x_surf t i (V i) + x_surf t i k = _
      rw [sg_one (G := fun j x => x_surf t j x) hi, h.2.2.2.2.1]; grind
    · rw [sg_one (G := fun j x => if p ≤ t.1 6 j then 0 else x) hi]
      by_cases hp : p ≤ t.1 6 i
      · simp only [if_pos hp]; grind
      · simp only [if_neg hp]; grind
    · rw [sg_one (G := fun j x => if p ≤ t.1 6 j then 0 else x * (p - t.1 6 j)) hi]
      by_cases hp : p ≤ t.1 6 i
      · simp only [if_pos hp]; grind
      · simp only [if_neg hp]; grind
theorem fillT_10 (i : Nat) (k : Int64) (t : St) (j : Nat) : (x_fillT i k t).1 10 j = if j = i then k else t.1 10 j := by
  unfold x_fillT
  by_cases h0 : k - t.1 10 i = 0
  · rw [if_pos h0]
    by_cases e : j = i
    · subst e; rw [if_pos rfl]; grind
    · rw [if_neg e]
  · rw [if_neg h0, sL_at]
    by_cases e : j = i
    · rw [if_pos e, if_pos e]
    · rw [if_neg e, if_neg e, x_cutsAdd, cadd_10]; rfl
theorem more_10 (i : Nat) (k : Int64) (t : St) : (x_more i k t).1 10 = t.1 10 := by rw [x_more, x_cutsAdd, cadd_10]; rfl
