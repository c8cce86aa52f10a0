/-! Pure: sums, bounds, division -/
def sg (f : Nat → Int64) : Nat → Int64
  | 0 => 0
  | n + 1 => sg f n + f n
theorem sg_congr {f g : Nat → Int64} : ∀ {n : Nat}, (∀ i, i < n → f i = g i) → sg f n = sg g n
  | 0, _ => rfl
  | n + 1, h => by rw [sg, sg, sg_congr (n := n) (fun i hi => h i (by omega)), h n (by omega)]
theorem sg_zero {f : Nat → Int64} : ∀ {n : Nat}, (∀ i, i < n → f i = 0) → sg f n = 0
  | 0, _ => rfl
  | n + 1, h => by rw [sg, sg_zero (n := n) (fun i hi => h i (by omega)), h n (by omega)]; rfl
theorem sg_up {f g : Nat → Int64} {i : Nat} (h : ∀ j, j ≠ i → g j = f j) : ∀ {n : Nat}, i < n → sg g n = sg f n + (g i - f i)
  | 0, hi => absurd hi (by omega)
  | n + 1, hi => by
    by_cases e : i = n
    · subst e
      rw [sg, sg, sg_congr (f := g) (g := f) (n := i) (fun j hj => h j (by omega))]
      grind
    · rw [sg, sg, sg_up h (n := n) (by omega), h n (by omega)]
      grind
theorem ac_1 {F : Nat → Nat → Int64 → Int64} {g : Nat → Int64} (h0 : ∀ i a, F 0 i a = a) (h1 : ∀ n i a, F (n + 1) i a = F n (i + 1) (a + g i)) : ∀ n i a, F n i a = a + (sg g (i + n) - sg g i)
  | 0, i, a => by rw [h0, Nat.add_zero]; grind
  | n + 1, i, a => by
    rw [h1, ac_1 h0 h1 n, show i + 1 + n = i + (n + 1) by omega, show sg g (i + 1) = sg g i + g i from rfl]
    grind
theorem ac_0 {F : Nat → Nat → Int64 → Int64} {g : Nat → Int64} (h0 : ∀ i a, F 0 i a = a) (h1 : ∀ n i a, F (n + 1) i a = F n (i + 1) (a + g i)) (n : Nat) (a : Int64) : F n 0 a = a + sg g n := by
  rw [ac_1 h0 h1, Nat.zero_add, show sg g 0 = 0 from rfl]; grind
/-- bounds, in integers -/
abbrev bd (x : Int64) (A : Int) : Prop := -A ≤ x.toInt ∧ x.toInt ≤ A
theorem bd_mono {x : Int64} {A B : Int} (h : bd x A) (hAB : A ≤ B) : bd x B := ⟨by have := h.1; omega, by have := h.2; omega⟩
theorem ti_add {a b : Int64} {A B : Int} (ha : bd a A) (hb : bd b B) (h : A + B < 2 ^ 63) : (a + b).toInt = a.toInt + b.toInt := by
  rw [Int64.toInt_add, Int.bmod_eq_of_le] <;> (simp only [bd] at *; omega)
theorem ti_sub {a b : Int64} {A B : Int} (ha : bd a A) (hb : bd b B) (h : A + B < 2 ^ 63) : (a - b).toInt = a.toInt - b.toInt := by
  rw [Int64.toInt_sub, Int.bmod_eq_of_le] <;> (simp only [bd] at *; omega)
theorem mul_bd {a b A B : Int} (ha : -A ≤ a ∧ a ≤ A) (hb : -B ≤ b ∧ b ≤ B) : -(A * B) ≤ a * b ∧ a * b ≤ A * B := by
  have h1 : a.natAbs ≤ A.natAbs := by omega
  have h2 : b.natAbs ≤ B.natAbs := by omega
  have h3 := Nat.mul_le_mul h1 h2
  rw [← Int.natAbs_mul, ← Int.natAbs_mul] at h3
  have h4 : 0 ≤ A * B := Int.mul_nonneg (by omega) (by omega)
  omega
theorem ti_mul {a b : Int64} {A B : Int} (ha : bd a A) (hb : bd b B) (h : A * B < 2 ^ 63) : (a * b).toInt = a.toInt * b.toInt := by
  have := mul_bd ha hb
  rw [Int64.toInt_mul, Int.bmod_eq_of_le] <;> omega
theorem bd_add {a b : Int64} {A B : Int} (ha : bd a A) (hb : bd b B) (h : A + B < 2 ^ 63) : bd (a + b) (A + B) := by
  rw [bd, ti_add ha hb h]; simp only [bd] at *; omega
theorem bd_sub {a b : Int64} {A B : Int} (ha : bd a A) (hb : bd b B) (h : A + B < 2 ^ 63) : bd (a - b) (A + B) := by
  rw [bd, ti_sub ha hb h]; simp only [bd] at *; omega
theorem bd_mul {a b : Int64} {A B : Int} (ha : bd a A) (hb : bd b B) (h : A * B < 2 ^ 63) : bd (a * b) (A * B) := by
  rw [bd, ti_mul ha hb h]; exact mul_bd ha hb
theorem bd_sg {f : Nat → Int64} {M : Int} (hM : 0 ≤ M) : ∀ {n : Nat}, (∀ i, i < n → bd (f i) M) → (n : Int) * M < 2 ^ 63 → bd (sg f n) ((n : Int) * M)
  | 0, _, _ => ⟨by simp [sg], by simp [sg]⟩
  | n + 1, h, hn => by
    have e : ((n + 1 : Nat) : Int) * M = (n : Int) * M + M := by rw [Int.natCast_add, Int.add_mul]; simp
    rw [e] at hn ⊢
    exact bd_add (bd_sg hM (n := n) (fun i hi => h i (by omega)) (by omega)) (h n (by omega)) hn
theorem bd_in {x a b : Int64} {A : Int} (h : x_in x a b) (ha : -A ≤ a.toInt) (hb : b.toInt ≤ A) : bd x A := by
  have h1 := Int64.le_iff_toInt_le.mp h.1; have h2 := Int64.le_iff_toInt_le.mp h.2
  simp only [bd]; omega
theorem bd_pl {x : Int64} (h : x_pl x) : bd x 10000 := bd_in h (by decide) (by decide)
theorem in_0 {x b : Int64} (h : x_in x 0 b) : 0 ≤ x.toInt := Int64.le_iff_toInt_le.mp h.1
theorem eq_ti {a b : Int64} (h : a.toInt = b.toInt) : a = b := Int64.toInt_inj.mp h
theorem ti_0 : (0 : Int64).toInt = 0 := rfl
/-- the reference's floor, in integers -/
theorem ti_div {u d : Int64} (hd : 0 < d.toInt) : (u / d).toInt = u.toInt.tdiv d.toInt := by
  rw [Int64.toInt_div]
  have h1 := Int64.le_toInt u
  have h2 := Int64.toInt_lt u
  have h3 : (u.toInt.tdiv d.toInt).natAbs ≤ u.toInt.natAbs := Int.natAbs_tdiv_le_natAbs _ _
  by_cases h4 : u.toInt.tdiv d.toInt = 2 ^ 63
  · exfalso
    have h5 : u.toInt = -2 ^ 63 := by omega
    have h6 : 0 ≤ -(u.toInt.tdiv d.toInt) := by
      rw [← Int.neg_tdiv]
      exact Int.tdiv_nonneg (by omega) (by omega)
    omega
  · rw [Int.bmod_eq_of_le] <;> omega
theorem fl_ti {u d : Int64} (hd : 0 < d.toInt) : (y_fl u d).toInt = u.toInt / d.toInt := by
  have hq := ti_div (u := u) hd
  have hr : (u - u / d * d).toInt = u.toInt.tmod d.toInt := by rw [l_rem, Int64.toInt_mod]
  have h1 := Int64.le_toInt u
  have h2 := Int64.toInt_lt u
  have hd0 : 0 ≤ d := Int64.le_iff_toInt_le.mpr (by rw [ti_0]; omega)
  have hrz : u - u / d * d = 0 ↔ u.toInt.tmod d.toInt = 0 := by
    rw [← hr]; exact ⟨fun h => by rw [h]; rfl, fun h => eq_ti (by rw [h]; rfl)⟩
  have hu0 : 0 ≤ u ↔ 0 ≤ u.toInt := Int64.le_iff_toInt_le
  have ed := Int.mul_tdiv_add_tmod u.toInt d.toInt
  unfold y_fl
  by_cases h : u - u / d * d = 0
  · rw [if_pos h, hq]
    have hm := hrz.mp h
    rw [hm, Int.add_zero] at ed
    generalize hz : u.toInt.tdiv d.toInt = z at ed ⊢
    rw [← ed, Int.mul_ediv_cancel_left _ (by omega)]
  · rw [if_neg h]
    by_cases hu : 0 ≤ u
    · rw [if_pos hu, if_pos hd0, hq, Int.tdiv_eq_ediv_of_nonneg (hu0.mp hu)]
    · rw [if_neg hu, if_pos hd0]
      have hneg : u.toInt < 0 := Int.not_le.mp (fun h => hu (hu0.mpr h))
      have hqb : bd (u / d) (2 ^ 63 - 1) := by
        rw [bd, hq]
        have h7 : (u.toInt.tdiv d.toInt).natAbs ≤ u.toInt.natAbs := Int.natAbs_tdiv_le_natAbs _ _
        have h8 : u.toInt.tdiv d.toInt ≤ 0 := by
          have := Int.tdiv_nonneg (a := -u.toInt) (b := d.toInt) (by omega) (by omega)
          rw [Int.neg_tdiv] at this; omega
        refine ⟨?_, by omega⟩
        by_cases h9 : u.toInt.tdiv d.toInt = -2 ^ 63
        · exfalso
          have hm0 : u.toInt.tmod d.toInt ≠ 0 := fun z => h (hrz.mpr z)
          have hd1 : d.toInt ≠ 1 := fun z => hm0 (by rw [z]; exact Int.tmod_one _)
          have hge : 2 * (-(u.toInt.tdiv d.toInt)) ≤ d.toInt * (-(u.toInt.tdiv d.toInt)) := Int.mul_le_mul_of_nonneg_right (by omega) (by omega)
          have hmn : u.toInt.tmod d.toInt ≤ 0 := by
            have := Int.tmod_nonneg d.toInt (a := -u.toInt) (by omega)
            rw [Int.neg_tmod] at this; omega
          simp only [Int.mul_neg] at hge
          omega
        · omega
      have h1b : bd (1 : Int64) 1 := by decide
      have e1 : (u / d - 1).toInt = (u / d).toInt - 1 := by
        rw [Int64.toInt_sub, show (1 : Int64).toInt = 1 from rfl, Int.bmod_eq_of_le] <;> (simp only [bd] at hqb; omega)
      rw [e1, hq]
      have hm0 : u.toInt.tmod d.toInt ≠ 0 := fun z => h (hrz.mpr z)
      have hmn : u.toInt.tmod d.toInt ≤ 0 := by
        have := Int.tmod_nonneg d.toInt (a := -u.toInt) (by omega)
        rw [Int.neg_tmod] at this; omega
      have hml : -d.toInt < u.toInt.tmod d.toInt := by
        have := Int.tmod_lt_of_pos (-u.toInt) hd
        rw [Int.neg_tmod] at this; omega
      generalize hz : u.toInt.tdiv d.toInt = z at ed ⊢
      generalize hw : u.toInt.tmod d.toInt = w at *
      symm
      rw [Int.ediv_eq_iff_of_pos hd]
      constructor
      · rw [Int.sub_mul, Int.mul_comm z]; omega
      · rw [Int.sub_mul, Int.mul_comm z]; omega

/-- the class's floor is the reference's, over a positive divisor -/
theorem neg_msb (x : Int64) : x < 0 ↔ x.toBitVec.msb = true := by
  rw [Int64.lt_iff_toInt_lt, ti_0]
  show x.toBitVec.toInt < 0 ↔ _
  rw [BitVec.msb_eq_toInt]; simp
theorem xor_neg {x y : Int64} (hy : 0 ≤ y.toInt) : (x ^^^ y) < 0 ↔ x < 0 := by
  have h : y.toBitVec.msb = false := by
    have h9 : ¬ y < 0 := fun z => by rw [Int64.lt_iff_toInt_lt, ti_0] at z; omega
    cases e : y.toBitVec.msb
    · rfl
    · exact absurd ((neg_msb y).mpr e) h9
  rw [neg_msb, neg_msb, Int64.toBitVec_xor, BitVec.msb_xor, h]; simp
theorem dd_fl {u d : Int64} (hd : 0 < d.toInt) : x_dd u d = y_fl u d := by
  have hd0 : (0 : Int64) < d := Int64.lt_iff_toInt_lt.mpr (by rw [ti_0]; exact hd)
  have hd1 : (0 : Int64) ≤ d := Int64.le_iff_toInt_le.mpr (by rw [ti_0]; omega)
  have hz : u - u / d * d = 0 ↔ u / d * d = u := ⟨fun h => by grind, fun h => by grind⟩
  unfold x_dd x_fdiv y_fl
  rw [if_pos hd0]
  have hxn := xor_neg (x := u) (y := d) (by omega)
  by_cases h : u / d * d = u
  · rw [if_neg (fun z => z.2 h), if_pos (hz.mpr h)]
  · rw [if_neg (fun z => h (hz.mp z))]
    by_cases hu : 0 ≤ u
    · rw [if_neg (fun z => absurd hu (Int64.not_le.mpr (hxn.mp z.1))), if_pos hu, if_pos hd1]
    · rw [if_pos ⟨hxn.mpr (Int64.not_le.mp hu), h⟩, if_neg hu, if_pos hd1]
theorem dd_ti {u d : Int64} (hd : 0 < d.toInt) : (x_dd u d).toInt = u.toInt / d.toInt := by rw [dd_fl hd, fl_ti hd]
theorem ti_neg {u : Int64} (h : -2 ^ 63 < u.toInt) : (-u).toInt = -u.toInt := by
  have h2 := Int64.toInt_lt u
  rw [Int64.toInt_neg, Int.bmod_eq_of_le] <;> omega
theorem bd_neg {u : Int64} {A : Int} (h : bd u A) (hA : A < 2 ^ 63) : bd (-u) A := by
  simp only [bd] at *
  rw [ti_neg (by omega)]; omega
/-- the ceiling -/
theorem ce_eq {u d : Int64} (hu : bd u 9000000000000000000) (hd : 0 < d.toInt) (hd2 : d.toInt ≤ 10000000000000000) : -(x_dd (-u) d) = y_ce u d := by
  have hu' := hu
  simp only [bd] at hu'
  have e1 : (x_dd (-u) d).toInt = (-u.toInt) / d.toInt := by rw [dd_ti hd, ti_neg (by omega)]
  have hlow : -u.toInt - (d.toInt - 1) ≤ d.toInt * ((-u.toInt) / d.toInt) := by have := Int.emod_lt_of_pos (-u.toInt) hd; have := Int.mul_ediv_add_emod (-u.toInt) d.toInt; omega
  have hup : d.toInt * ((-u.toInt) / d.toInt) ≤ -u.toInt := by have := Int.emod_nonneg (-u.toInt) (by omega : d.toInt ≠ 0); have := Int.mul_ediv_add_emod (-u.toInt) d.toInt; omega
  have hq : ∀ q z : Int, d.toInt * q = z → -9100000000000000000 ≤ z → z ≤ 9100000000000000000 → -9100000000000000000 ≤ q ∧ q ≤ 9100000000000000000 := by
    intro q z e h1 h2
    have h3 : q.natAbs ≤ z.natAbs := by
      rw [← e, Int.natAbs_mul]
      exact Nat.le_mul_of_pos_left _ (by omega)
    omega
  have b1 := hq _ _ rfl (by omega : -9100000000000000000 ≤ d.toInt * ((-u.toInt) / d.toInt)) (by omega)
  have e2 : (-(x_dd (-u) d)).toInt = -((-u.toInt) / d.toInt) := by rw [ti_neg (by rw [e1]; omega), e1]
  apply eq_ti
  rw [e2]
  have e3 : (y_fl u d).toInt = u.toInt / d.toInt := fl_ti hd
  have m1 := Int.mul_ediv_add_emod u.toInt d.toInt
  have m2 := Int.emod_nonneg u.toInt (by omega : d.toInt ≠ 0)
  have m3 := Int.emod_lt_of_pos u.toInt hd
  have b2 := hq _ _ rfl (by omega : -9100000000000000000 ≤ d.toInt * (u.toInt / d.toInt)) (by omega)
  have e4 : (y_fl u d * d).toInt = d.toInt * (u.toInt / d.toInt) := by
    rw [Int64.toInt_mul, e3, Int.mul_comm, Int.bmod_eq_of_le] <;> omega
  unfold y_ce
  by_cases h : y_fl u d * d = u
  · rw [if_pos h, e3]
    have h5 : d.toInt * (u.toInt / d.toInt) = u.toInt := by rw [← e4, h]
    have h6 : -u.toInt = d.toInt * (-(u.toInt / d.toInt)) := by rw [Int.mul_neg, h5]
    rw [h6, Int.mul_ediv_cancel_left _ (by omega)]; omega
  · rw [if_neg h]
    have h5 : d.toInt * (u.toInt / d.toInt) ≠ u.toInt := fun z => h (eq_ti (by rw [e4, z]))
    have e5 : (y_fl u d + 1).toInt = u.toInt / d.toInt + 1 := by
      rw [Int64.toInt_add, e3, show (1 : Int64).toInt = 1 from rfl, Int.bmod_eq_of_le] <;> omega
    rw [e5]
    have h6 : (-u.toInt) / d.toInt = -(u.toInt / d.toInt) - 1 := by
      rw [Int.ediv_eq_iff_of_pos hd]
      constructor
      · rw [Int.sub_mul, Int.neg_mul, Int.mul_comm (u.toInt / d.toInt)]; omega
      · rw [Int.sub_mul, Int.neg_mul, Int.mul_comm (u.toInt / d.toInt)]; omega
    rw [h6]; omega
/-! Pure: the common divisor -/
theorem r_ti {a b : Int64} (ha : 0 ≤ a.toInt) (hb : 0 < b.toInt) : (a - a / b * b).toInt = a.toInt % b.toInt := by
  rw [l_rem, Int64.toInt_mod, Int.tmod_eq_emod_of_nonneg ha]
theorem nat_i {a : Int} (h : 0 ≤ a) : (a.natAbs : Int) = a := by omega
theorem g_step {a b : Int64} (ha : 0 ≤ a.toInt) (hb : 0 < b.toInt) : (a - a / b * b).toInt.natAbs = a.toInt.natAbs % b.toInt.natAbs := by
  rw [r_ti ha hb]
  have h : ((a.toInt.natAbs % b.toInt.natAbs : Nat) : Int) = a.toInt % b.toInt := by rw [Int.natCast_emod, nat_i ha, nat_i (by omega)]
  omega
theorem b_pos {b : Int64} (hb : 0 ≤ b.toInt) (h : ¬ b = 0) : 0 < b.toInt := by
  have : b.toInt ≠ 0 := fun z => h (eq_ti (by rw [z]; rfl))
  omega
theorem gm (x y : Nat) : Nat.gcd y (x % y) = Nat.gcd x y := by rw [Nat.gcd_comm y, ← Nat.gcd_rec, Nat.gcd_comm]
theorem g_1 : ∀ (n : Nat) (a b : Int64), 0 ≤ a.toInt → 0 ≤ b.toInt → b.toInt.natAbs ≤ n → (x_gcd n a b).toInt = (Nat.gcd a.toInt.natAbs b.toInt.natAbs : Int)
  | 0, a, b, ha, hb, h => by
    have e : b.toInt.natAbs = 0 := by omega
    rw [x_gcd, e, Nat.gcd_zero_right]; omega
  | n + 1, a, b, ha, hb, h => by
    rw [x_gcd]
    by_cases h0 : b = 0
    · rw [if_pos h0, h0, ti_0]; simp; omega
    · have hp := b_pos hb h0
      have hs := g_step ha hp
      have hlt := Nat.mod_lt a.toInt.natAbs (show 0 < b.toInt.natAbs by omega)
      rw [if_neg h0, g_1 n b _ hb (by rw [r_ti ha hp]; exact Int.emod_nonneg _ (by omega)) (by rw [hs]; omega), hs, gm]
theorem g_0 (n : Nat) (a : Int64) : x_gcd n a 0 = a := by cases n <;> simp [x_gcd]
theorem g_2 : ∀ (k n : Nat) (a b : Int64), 0 ≤ a.toInt → 0 ≤ b.toInt → b.toInt.natAbs < 2 ^ k → 2 * k ≤ n → (x_gcd n a b).toInt = (Nat.gcd a.toInt.natAbs b.toInt.natAbs : Int)
  | 0, n, a, b, ha, hb, h, _ => by
    have e : b = 0 := eq_ti (by rw [ti_0]; omega)
    rw [e, g_0, ti_0]; simp; omega
  | k + 1, n, a, b, ha, hb, h, hn => by
    obtain ⟨n', rfl⟩ : ∃ n', n = n' + 2 := ⟨n - 2, by omega⟩
    rw [x_gcd]
    by_cases h0 : b = 0
    · rw [if_pos h0, h0, ti_0]; simp; omega
    · have hp := b_pos hb h0
      have hs := g_step ha hp
      have hr := r_ti ha hp
      have hn1 : 0 ≤ (a - a / b * b).toInt := by rw [hr]; exact Int.emod_nonneg _ (by omega)
      rw [if_neg h0, x_gcd]
      have e1 : Nat.gcd a.toInt.natAbs b.toInt.natAbs = Nat.gcd b.toInt.natAbs (a - a / b * b).toInt.natAbs := by rw [hs, gm]
      by_cases h1 : a - a / b * b = 0
      · rw [if_pos h1, e1, h1, ti_0]; simp; omega
      · have hp1 := b_pos hn1 h1
        have hs1 := g_step hb hp1
        have hr1 := r_ti hb hp1
        rw [if_neg h1]
        have hlt := Nat.mod_lt a.toInt.natAbs (show 0 < b.toInt.natAbs by omega)
        have hlt1 := Nat.mod_lt b.toInt.natAbs (show 0 < (a - a / b * b).toInt.natAbs by omega)
        have hsm : b.toInt.natAbs % (a - a / b * b).toInt.natAbs < 2 ^ k := by
          have h2 := Nat.div_add_mod b.toInt.natAbs (a - a / b * b).toInt.natAbs
          have h3 : 1 ≤ b.toInt.natAbs / (a - a / b * b).toInt.natAbs := (Nat.one_le_div_iff (by omega)).mpr (by rw [hs]; omega)
          have h4 := Nat.mul_le_mul_left (a - a / b * b).toInt.natAbs h3
          rw [Nat.pow_succ] at h
          omega
        rw [g_2 k n' _ _ hn1 (by rw [hr1]; exact Int.emod_nonneg _ (by omega)) (by rw [hs1]; exact hsm) (by omega), hs1, e1, gm]
theorem ab_eq (x : Int64) : x_abs x = y_ab x := by
  unfold x_abs y_ab
  by_cases h : (0 : Int64) < x
  · rw [if_pos h, if_pos (Int64.le_of_lt h)]
  · rw [if_neg h]
    by_cases h2 : (0 : Int64) ≤ x
    · have : x = 0 := Int64.le_antisymm (Int64.not_lt.mp h) h2
      rw [if_pos h2, this]; rfl
    · rw [if_neg h2]
theorem ab_ti {x : Int64} {A : Int} (h : bd x A) (hA : A < 2 ^ 63) : (y_ab x).toInt = (x.toInt.natAbs : Int) := by
  simp only [bd] at h
  unfold y_ab
  by_cases h2 : (0 : Int64) ≤ x
  · have := Int64.le_iff_toInt_le.mp h2; rw [ti_0] at this
    rw [if_pos h2]; omega
  · have := Int64.lt_iff_toInt_lt.mp (Int64.not_le.mp h2); rw [ti_0] at this
    rw [if_neg h2, ti_neg (by omega)]; omega
/-- class and reference find the same common divisor, at least 1 -/
theorem g_eq {u d : Int64} {A : Int} (hu : bd u A) (hA : A < 2 ^ 63) (hd : 0 < d.toInt) : x_gcd 1000 (x_abs u) d = x_gcd d.toInt.natAbs (y_ab u) d ∧ 1 ≤ (x_gcd d.toInt.natAbs (y_ab u) d).toInt := by
  have h0 : 0 ≤ (y_ab u).toInt := by rw [ab_ti hu hA]; omega
  have hl := Int64.toInt_lt d
  have h1 := g_1 d.toInt.natAbs (y_ab u) d h0 (by omega) (Nat.le_refl _)
  have h2 := g_2 64 1000 (y_ab u) d h0 (by omega) (by omega) (by omega)
  rw [ab_eq]
  refine ⟨eq_ti (h2.trans h1.symm), ?_⟩
  rw [h1]
  have : 0 < Nat.gcd (y_ab u).toInt.natAbs d.toInt.natAbs := Nat.gcd_pos_of_pos_right _ (by omega)
  omega
