/-! Pure: the sums of both sides at one time -/
def SS (B : Int) (t u : St) : Prop := RR t u ∧ t.2.2.2 5 = t.2.2.2 3 ∧ Sm t (u.1 10) (u.1 11) ∧ (∀ i, i < t.2.2.2 1 → t.1 10 i = u.1 11 i) ∧ (∀ i, i < t.2.2.2 0 → bd (u.1 10 i) B) ∧ ∀ i, i < t.2.2.2 1 → 0 ≤ (u.1 11 i).toInt ∧ (u.1 11 i).toInt ≤ 40000
def FF (a b : St) : Prop := (∀ k, k ≠ 11 → a.1 k = b.1 k) ∧ a.2.1 = b.2.1 ∧ a.2.2.2 = b.2.2.2 ∧ ∀ k, k ≠ 7 → k ≠ 8 → a.2.2.1 k = b.2.2.1 k
def Ag (a b : St) : Prop := EB a b ∧ (∀ i, i < b.2.2.2 1 → a.1 10 i = b.1 10 i) ∧ ∀ i, i < b.2.2.2 2 → a.1 11 i = b.1 11 i
theorem FF.rf (a : St) : FF a a := ⟨fun _ _ => rfl, rfl, rfl, fun _ _ _ => rfl⟩
theorem FF.tr {a b c : St} (h : FF a b) (g : FF b c) : FF a c := ⟨fun k h1 => (h.1 k h1).trans (g.1 k h1), h.2.1.trans g.2.1, h.2.2.1.trans g.2.2.1, fun k h1 h2 => (h.2.2.2 k h1 h2).trans (g.2.2.2 k h1 h2)⟩
theorem FF.sF {t : St} (k : Nat) (v : Int64) (h : k = 7 ∨ k = 8) : FF (sF t k v) t := ⟨fun _ _ => rfl, rfl, rfl, fun q h1 h2 => if_neg (by omega)⟩
theorem FF.put (a b : Int64) (t : St) : FF (x_put a b t) t := by
  unfold x_put; split
  · exact (FF.sF 8 _ (Or.inr rfl)).tr (FF.sF 7 _ (Or.inl rfl))
  · exact (FF.sF 8 _ (Or.inr rfl)).tr (FF.sF 7 _ (Or.inl rfl))
theorem Ag.rf (a : St) : Ag a a := ⟨EB.rf a, fun _ _ => rfl, fun _ _ => rfl⟩
theorem Ag.tr {a b c : St} (h : Ag a b) (g : Ag b c) : Ag a c := ⟨h.1.tr g.1, fun i hi => (h.2.1 i (by rw [g.1.2.2.2.2 1 (by decide)]; exact hi)).trans (g.2.1 i hi), fun i hi => (h.2.2 i (by rw [g.1.2.2.2.2 2 (by decide)]; exact hi)).trans (g.2.2 i hi)⟩
theorem FF.cb {a b c : St} (h : FF a b) (g : RR b c) : CB a b := ⟨fun k _ h1 _ _ _ => h.1 k h1, fun i => by rw [h.1 18 (by decide)], h.2.1, h.2.2.2 0 (by decide) (by decide), h.2.2.2 1 (by decide) (by decide), fun k _ => by rw [h.2.2.1], by rw [h.2.2.1]; exact g.2.2.2.2.2.2⟩
theorem SS.fr {B : Int} {t u t' u' : St} (h : SS B t u) (a : FF t' t) (b : Ag u' u) : SS B t' u' := by
  obtain ⟨h1, h2, h3, h4, h5, h6⟩ := h
  have n1 := h1.1.1
  have n2 := h1.2.1.1
  refine ⟨h1.fr (a.cb h1) b.1, by rw [a.2.2.1]; exact h2, ?_, ?_, ?_, ?_⟩
  · have h3' : Sm t' (u.1 10) (u.1 11) := Sm.fr h3 (fun j _ hj => a.1 j hj) a.2.2.1 (fun k _ hk => a.2.2.2 k (by omega) (by omega))
    exact h3'.congr (fun i hi => b.2.1 i (by rw [n1, ← a.2.2.1]; exact hi)) (fun i hi => b.2.2 i (by rw [n2, ← a.2.2.1]; exact hi))
  · intro i hi
    rw [a.2.2.1] at hi
    rw [a.1 10 (by decide), b.2.2 i (by omega)]; exact h4 i hi
  · intro i hi
    rw [a.2.2.1] at hi
    rw [b.2.1 i (by omega)]; exact h5 i hi
  · intro i hi
    rw [a.2.2.1] at hi
    rw [b.2.2 i (by omega)]; exact h6 i hi
theorem SS.mono {B C : Int} {t u : St} (h : SS B t u) (hB : B ≤ C) : SS C t u := ⟨h.1, h.2.1, h.2.2.1, h.2.2.2.1, fun i hi => bd_mono (h.2.2.2.2.1 i hi) hB, h.2.2.2.2.2⟩
/-- the reference's sums -/
theorem S_sg (b : Int32) (u : St) : y_S b u = sg (fun i => u.1 10 i * y_c b (u.1 1 i) (u.1 2 i) (u.1 3 i)) (u.2.2.2 1) + sg (fun i => u.1 11 i * y_c b (u.1 6 i) (u.1 7 i) (u.1 8 i)) (u.2.2.2 2) := by
  show y_st b u.1 (u.2.2.2 2) 0 (y_sw b u.1 (u.2.2.2 1) 0 0) = _
  rw [ac_0 (F := y_st b u.1) (g := fun i => u.1 11 i * y_c b (u.1 6 i) (u.1 7 i) (u.1 8 i)) (fun _ _ => rfl) (fun _ _ _ => rfl), ac_0 (F := y_sw b u.1) (g := fun i => u.1 10 i * y_c b (u.1 1 i) (u.1 2 i) (u.1 3 i)) (fun _ _ => rfl) (fun _ _ _ => rfl), Int64.zero_add]
theorem R_sg (u : St) : y_R u = sg (fun i => if u.1 11 i ≤ 0 then 0 else if u.1 4 i ≤ u.1 11 i then 0 else u.1 5 i) (u.2.2.2 2) := by
  show y_fr u.1 (u.2.2.2 2) 0 0 = _
  rw [ac_0 (F := y_fr u.1) (g := fun i => if u.1 11 i ≤ 0 then 0 else if u.1 4 i ≤ u.1 11 i then 0 else u.1 5 i) (fun _ _ => rfl) (fun _ _ _ => rfl), Int64.zero_add]
theorem kg_sg (x : Int64) (u : St) : y_kg x u = sg (fun i => if x ≤ u.1 1 i then 0 else u.1 10 i) (u.2.2.2 1) + sg (fun i => if x ≤ u.1 6 i then 0 else u.1 11 i) (u.2.2.2 2) := by
  show y_at x u.1 (u.2.2.2 2) 0 (y_aw x u.1 (u.2.2.2 1) 0 0) = _
  rw [ac_0 (F := y_at x u.1) (g := fun i => if x ≤ u.1 6 i then 0 else u.1 11 i) (fun _ _ => rfl) (fun _ _ _ => rfl), ac_0 (F := y_aw x u.1) (g := fun i => if x ≤ u.1 1 i then 0 else u.1 10 i) (fun _ _ => rfl) (fun _ _ _ => rfl), Int64.zero_add]
theorem tn_sg (x : Int64) (u : St) : y_tn x u = sg (fun i => if x ≤ u.1 1 i then 0 else u.1 10 i * (x - u.1 1 i)) (u.2.2.2 1) + sg (fun i => if x ≤ u.1 6 i then 0 else u.1 11 i * (x - u.1 6 i)) (u.2.2.2 2) := by
  show y_mt x u.1 (u.2.2.2 2) 0 (y_mw x u.1 (u.2.2.2 1) 0 0) = _
  rw [ac_0 (F := y_mt x u.1) (g := fun i => if x ≤ u.1 6 i then 0 else u.1 11 i * (x - u.1 6 i)) (fun _ _ => rfl) (fun _ _ _ => rfl), ac_0 (F := y_mw x u.1) (g := fun i => if x ≤ u.1 1 i then 0 else u.1 10 i * (x - u.1 1 i)) (fun _ _ => rfl) (fun _ _ _ => rfl), Int64.zero_add]
theorem bd_sgc {f : Nat → Int64} {n c : Nat} {M A : Int} (hM : 0 ≤ M) (hn : n ≤ c) (h : ∀ i, i < n → bd (f i) M) (hA : (c : Int) * M ≤ A) (hA2 : A < 2 ^ 63) : bd (sg f n) A := by
  have h1 : (n : Int) * M ≤ (c : Int) * M := Int.mul_le_mul_of_nonneg_right (by omega) hM
  exact bd_mono (bd_sg hM h (by omega)) (by omega)
theorem yc_0 (x y z : Int64) : y_c 0 x y z = 1 := rfl
theorem yc_1 (x y z : Int64) : y_c 1 x y z = x := rfl
theorem yc_2 (x y z : Int64) : y_c 2 x y z = y := rfl
theorem yc_3 (x y z : Int64) : y_c 3 x y z = z := rfl
theorem SS.nw {B : Int} {t u : St} (h : SS B t u) : u.2.2.2 1 = t.2.2.2 0 := h.1.1.1
theorem SS.nt {B : Int} {t u : St} (h : SS B t u) : u.2.2.2 2 = t.2.2.2 1 := h.1.2.1.1
theorem SS.F2 {B : Int} {t u : St} (h : SS B t u) : t.2.2.1 2 = y_S 0 u := by
  rw [S_sg, h.nw, h.nt, h.2.2.1.1]
  exact pl2 (sg_congr fun i _ => by simp only [yc_0]; rw [Int64.mul_one]) (sg_congr fun i _ => by simp only [yc_0]; rw [Int64.mul_one])
theorem SS.F3 {B : Int} {t u : St} (h : SS B t u) : t.2.2.1 3 = y_S 1 u := by
  rw [S_sg, h.nw, h.nt, h.2.2.1.2.1]
  exact pl2 (sg_congr fun i hi => by simp only [yc_1]; rw [(h.1.1.2.2 i hi).1.2.1]) (sg_congr fun i hi => by simp only [yc_1]; rw [(h.1.2.1.2.2.1 i hi).1.2.2.1])
theorem SS.F4 {B : Int} {t u : St} (h : SS B t u) : t.2.2.1 4 = y_S 2 u := by
  rw [S_sg, h.nw, h.nt, h.2.2.1.2.2.1]
  exact pl2 (sg_congr fun i hi => by simp only [yc_2]; rw [(h.1.1.2.2 i hi).1.2.2.1]) (sg_congr fun i hi => by simp only [yc_2]; rw [(h.1.2.1.2.2.1 i hi).1.2.2.2.1])
theorem SS.F5 {B : Int} {t u : St} (h : SS B t u) : t.2.2.1 5 = y_S 3 u := by
  rw [S_sg, h.nw, h.nt, h.2.2.1.2.2.2.1]
  exact pl2 (sg_congr fun i hi => by simp only [yc_3]; rw [(h.1.1.2.2 i hi).1.2.2.2]) (sg_congr fun i hi => by simp only [yc_3]; rw [(h.1.2.1.2.2.1 i hi).1.2.2.2.2.1])
theorem SS.F6 {B : Int} {t u : St} (h : SS B t u) : t.2.2.1 6 = y_R u := by
  rw [R_sg, h.nt, h.2.2.1.2.2.2.2.1]
  refine sg_congr fun i hi => ?_
  simp only [x_surf]
  rw [(h.1.2.1.2.2.1 i hi).1.1, (h.1.2.1.2.2.1 i hi).1.2.1]
  by_cases h1 : u.1 11 i ≤ 0
  · rw [if_pos h1, if_neg (fun z => absurd h1 (Int64.not_le.mpr z.1))]
  · rw [if_neg h1]
    by_cases h2 : t.1 4 i ≤ u.1 11 i
    · rw [if_pos h2, if_neg (fun z => absurd h2 (Int64.not_le.mpr z.2))]
    · rw [if_neg h2, if_pos ⟨Int64.not_le.mp h1, Int64.not_le.mp h2⟩]
theorem SS.L19 {B : Int} {t u : St} (h : SS B t u) {c : Nat} (hc : c ≤ t.2.2.2 5) : t.1 19 c = y_kg (t.1 18 c) u := by
  rw [kg_sg, h.nw, h.nt, (h.2.2.1.2.2.2.2.2 c hc).1]
  exact pl2 (sg_congr fun i hi => by rw [(h.1.1.2.2 i hi).1.2.1]) (sg_congr fun i hi => by rw [(h.1.2.1.2.2.1 i hi).1.2.2.1])
theorem SS.L20 {B : Int} {t u : St} (h : SS B t u) {c : Nat} (hc : c ≤ t.2.2.2 5) : t.1 20 c = y_tn (t.1 18 c) u := by
  rw [tn_sg, h.nw, h.nt, (h.2.2.1.2.2.2.2.2 c hc).2]
  exact pl2 (sg_congr fun i hi => by rw [(h.1.1.2.2 i hi).1.2.1]) (sg_congr fun i hi => by rw [(h.1.2.1.2.2.1 i hi).1.2.2.1])
/-- bounds -/
theorem bd_ite {p : Prop} [Decidable p] {x : Int64} {A : Int} (h : bd x A) (hA : 0 ≤ A) : bd (if p then 0 else x) A := by
  by_cases hp : p
  · rw [if_pos hp]; exact ⟨by rw [ti_0]; omega, by rw [ti_0]; omega⟩
  · rw [if_neg hp]; exact h
theorem SS.K {B : Int} {t u : St} (h : SS B t u) (hB : B ≤ 2100000) {i : Nat} (hi : i < t.2.2.2 0) : bd (u.1 10 i) 2100000 := bd_mono (h.2.2.2.2.1 i hi) hB
theorem SS.V {B : Int} {t u : St} (h : SS B t u) {i : Nat} (hi : i < t.2.2.2 1) : bd (u.1 11 i) 40000 := by
  have := h.2.2.2.2.2 i hi
  exact ⟨by omega, by omega⟩
theorem SS.bS {B : Int} {t u : St} (h : SS B t u) (hB : B ≤ 2100000) {b : Int32} {M : Int} (hM : 0 ≤ M) (hM2 : M ≤ 10000) (hw : ∀ i, i < t.2.2.2 0 → bd (y_c b (u.1 1 i) (u.1 2 i) (u.1 3 i)) M) (ht : ∀ i, i < t.2.2.2 1 → bd (y_c b (u.1 6 i) (u.1 7 i) (u.1 8 i)) M) : bd (y_S b u) (84160000 * M) := by
  rw [S_sg, h.nw, h.nt]
  have a1 : bd (sg (fun i => u.1 10 i * y_c b (u.1 1 i) (u.1 2 i) (u.1 3 i)) (t.2.2.2 0)) (84000000 * M) :=
    bd_sgc (c := 40) (M := 2100000 * M) (by omega) h.1.1.2.1 (fun i hi => bd_mul (h.K hB hi) (hw i hi) (by omega)) (by omega) (by omega)
  have a2 : bd (sg (fun i => u.1 11 i * y_c b (u.1 6 i) (u.1 7 i) (u.1 8 i)) (t.2.2.2 1)) (160000 * M) :=
    bd_sgc (c := 4) (M := 40000 * M) (by omega) h.1.2.1.2.1 (fun i hi => bd_mul (h.V hi) (ht i hi) (by omega)) (by omega) (by omega)
  exact bd_mono (bd_add a1 a2 (by omega)) (by omega)
theorem SS.b0 {B : Int} {t u : St} (h : SS B t u) (hB : B ≤ 2100000) : bd (y_S 0 u) 84160000 := bd_mono (h.bS hB (M := 1) (by decide) (by decide) (fun _ _ => by rw [yc_0]; decide) (fun _ _ => by rw [yc_0]; decide)) (by decide)
theorem SS.b1 {B : Int} {t u : St} (h : SS B t u) (hB : B ≤ 2100000) : bd (y_S 1 u) 841600000000 := bd_mono (h.bS hB (M := 10000) (by decide) (by decide) (fun i hi => by rw [yc_1, (h.1.1.2.2 i hi).1.2.1]; exact (h.1.1.2.2 i hi).2.2.1) (fun i hi => by rw [yc_1, (h.1.2.1.2.2.1 i hi).1.2.2.1]; exact (h.1.2.1.2.2.1 i hi).2.2.2.1.1)) (by decide)
theorem SS.b2 {B : Int} {t u : St} (h : SS B t u) (hB : B ≤ 2100000) : bd (y_S 2 u) 841600000000 := bd_mono (h.bS hB (M := 10000) (by decide) (by decide) (fun i hi => by rw [yc_2, (h.1.1.2.2 i hi).1.2.2.1]; exact (h.1.1.2.2 i hi).2.2.2.1) (fun i hi => by rw [yc_2, (h.1.2.1.2.2.1 i hi).1.2.2.2.1]; exact (h.1.2.1.2.2.1 i hi).2.2.2.1.2.1)) (by decide)
theorem SS.b3 {B : Int} {t u : St} (h : SS B t u) (hB : B ≤ 2100000) : bd (y_S 3 u) 841600000000 := bd_mono (h.bS hB (M := 10000) (by decide) (by decide) (fun i hi => by rw [yc_3, (h.1.1.2.2 i hi).1.2.2.2]; exact (h.1.1.2.2 i hi).2.2.2.2) (fun i hi => by rw [yc_3, (h.1.2.1.2.2.1 i hi).1.2.2.2.2.1]; exact (h.1.2.1.2.2.1 i hi).2.2.2.1.2.2)) (by decide)
theorem SS.bR {B : Int} {t u : St} (h : SS B t u) : bd (y_R u) 4000000000 := by
  rw [R_sg, h.nt]
  refine bd_sgc (c := 4) (M := 1000000000) (by decide) h.1.2.1.2.1 (fun i hi => ?_) (by decide) (by decide)
  refine bd_ite (bd_ite ?_ (by decide)) (by decide)
  rw [(h.1.2.1.2.2.1 i hi).1.2.1]
  have := (h.1.2.1.2.2.1 i hi).2.2.1
  exact ⟨by omega, by omega⟩
theorem SS.bkg {B : Int} {t u : St} (h : SS B t u) (hB : B ≤ 2100000) (x : Int64) : bd (y_kg x u) 84160000 := by
  rw [kg_sg, h.nw, h.nt]
  have a1 : bd (sg (fun i => if x ≤ u.1 1 i then 0 else u.1 10 i) (t.2.2.2 0)) 84000000 :=
    bd_sgc (c := 40) (M := 2100000) (by decide) h.1.1.2.1 (fun i hi => bd_ite (h.K hB hi) (by decide)) (by decide) (by decide)
  have a2 : bd (sg (fun i => if x ≤ u.1 6 i then 0 else u.1 11 i) (t.2.2.2 1)) 160000 :=
    bd_sgc (c := 4) (M := 40000) (by decide) h.1.2.1.2.1 (fun i hi => bd_ite (h.V hi) (by decide)) (by decide) (by decide)
  exact bd_add a1 a2 (by decide)
theorem SS.btn {B : Int} {t u : St} (h : SS B t u) (hB : B ≤ 2100000) {x : Int64} (hx : bd x 10000) : bd (y_tn x u) 1683200000000 := by
  rw [tn_sg, h.nw, h.nt]
  have a1 : bd (sg (fun i => if x ≤ u.1 1 i then 0 else u.1 10 i * (x - u.1 1 i)) (t.2.2.2 0)) 1680000000000 :=
    bd_sgc (c := 40) (M := 2100000 * (10000 + 10000)) (by decide) h.1.1.2.1 (fun i hi => bd_ite (bd_mul (h.K hB hi) (bd_sub hx (by rw [(h.1.1.2.2 i hi).1.2.1]; exact (h.1.1.2.2 i hi).2.2.1) (by decide)) (by decide)) (by decide)) (by decide) (by decide)
  have a2 : bd (sg (fun i => if x ≤ u.1 6 i then 0 else u.1 11 i * (x - u.1 6 i)) (t.2.2.2 1)) 3200000000 :=
    bd_sgc (c := 4) (M := 40000 * (10000 + 10000)) (by decide) h.1.2.1.2.1 (fun i hi => bd_ite (bd_mul (h.V hi) (bd_sub hx (by rw [(h.1.2.1.2.2.1 i hi).1.2.2.1]; exact (h.1.2.1.2.2.1 i hi).2.2.2.1.1) (by decide)) (by decide)) (by decide)) (by decide) (by decide)
  exact bd_add a1 a2 (by decide)
