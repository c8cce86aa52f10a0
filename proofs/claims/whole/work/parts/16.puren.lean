theorem l_rem (x y : Int64) : x - x / y * y = x % y := by
  apply Int64.toInt_inj.mp
  rw [Int64.toInt_sub, Int64.toInt_mul, Int64.toInt_div, Int64.toInt_mod]
  have h1 : (x.toInt - (((x.toInt.tdiv y.toInt).bmod (2 ^ 64)) * y.toInt).bmod (2 ^ 64)).bmod (2 ^ 64) = (x.toInt - x.toInt.tdiv y.toInt * y.toInt).bmod (2 ^ 64) := by
    simp only [Int.sub_bmod_bmod, Int.bmod_mul_bmod]
    first | done | (rw [Int.sub_bmod_bmod]; done) | skip
    all_goals (rw [← Int.sub_bmod_bmod, Int.bmod_mul_bmod, Int.sub_bmod_bmod])
  rw [h1, show x.toInt - x.toInt.tdiv y.toInt * y.toInt = x.toInt.tmod y.toInt by rw [Int.tmod_def, Int.mul_comm]]
  have h2 := Int64.toInt_mod x y
  rw [← h2]
  have h3 := congrArg Int64.toInt (Int64.ofInt_toInt (x % y))
  rw [Int64.toInt_ofInt] at h3
  exact h3
theorem l_rlt (x : Int64) {y : Int64} (h : ¬ y = 0) : (x - x / y * y).toInt.natAbs < y.toInt.natAbs := by
  rw [l_rem, Int64.toInt_mod]
  have : y.toInt ≠ 0 := fun z => h (Int64.toInt_inj.mp (by rw [z]; rfl))
  have h2 := Int.natAbs_tmod x.toInt y.toInt
  rw [h2]
  exact Nat.mod_lt _ (Int.natAbs_pos.mpr this)
theorem l_z {y : Int64} (h : y.toInt.natAbs ≤ 0) : y = 0 := Int64.toInt_inj.mp (by rw [Int.natAbs_eq_zero.mp (Nat.le_zero.mp h)]; rfl)
def y_ab (x : Int64) : Int64 := if 0 ≤ x then x else -x
def y_ce (u d : Int64) : Int64 := if y_fl u d * d = u then y_fl u d else y_fl u d + 1
abbrev y_out (t : St) (k : Nat) (a b : Int64) : Prop := a < t.1 17 k ∨ ¬ b ≤ t.1 18 k
def y_bp (k : Nat) (t : St) : Prop := if t.2.1 0 k ≤ 7 then (if y_div (t.2.1 0 k) ∧ y_S 0 t = 0 then True else y_out t k (y_fl (y_U (t.2.1 0 k) t) (y_D (t.2.1 0 k) t)) (y_ce (y_U (t.2.1 0 k) t) (y_D (t.2.1 0 k) t))) else if t.2.1 0 k = 8 then y_out t k (y_shear (t.1 16 k) t) (y_shear (t.1 16 k) t) else y_out t k (y_bend (t.1 16 k) t) (y_bend (t.1 16 k) t)
def y_bt (k : Nat) (t : St) : St := if t.2.1 0 k ≤ 7 then (if y_div (t.2.1 0 k) ∧ y_S 0 t = 0 then t else y_rk (t.2.1 0 k) t) else t
theorem y_bt_N (k : Nat) (t : St) : (y_bt k t).2.2.2 = t.2.2.2 := by unfold y_bt; split; split; rfl; rfl; rfl
theorem y_bt_I (k : Nat) (t : St) : (y_bt k t).2.1 = t.2.1 := by unfold y_bt; split; split; rfl; rfl; rfl
def HZ (t : St) : Prop := ¬ t.2.2.1 1 - t.2.2.1 0 = 0 ∧ ¬ 2 * (t.2.2.1 1 - t.2.2.1 0) = 0 ∧ ∀ w : Int32, w ≤ 7 → ¬ (y_div w ∧ y_S 0 t = 0) → ¬ y_D w t = 0
theorem HZ.bt {t : St} (h : HZ t) (k : Nat) : HZ (y_bt k t) := by unfold y_bt; split; split; exact h; exact h; exact h
noncomputable def y_lb : Nat → Nat → St → Nat × St
  | 0, _, t => (0, t)
  | n + 1, i, t => @ite _ (y_bp i t) (Classical.propDecidable _) (i + 1, y_bt i t) (y_lb n (i + 1) (y_bt i t))
noncomputable abbrev y_bn (t : St) : Nat := (y_lb (t.2.2.2 4) 0 t).1
noncomputable abbrev y_bs (t : St) : St := (y_lb (t.2.2.2 4) 0 t).2
theorem y_lb_N : ∀ (n i : Nat) (t : St), (y_lb n i t).2.2.2.2 = t.2.2.2
  | 0, _, _ => rfl
  | n + 1, i, t => by rw [y_lb]; split; exact y_bt_N _ _; rw [y_lb_N n, y_bt_N]
theorem y_lb_le : ∀ (n i : Nat) (t : St), (y_lb n i t).1 ≤ i + n
  | 0, i, t => Nat.zero_le _
  | n + 1, i, t => by
    rw [y_lb]; split
    · show i + 1 ≤ _; omega
    · have := y_lb_le n (i + 1) (y_bt i t); omega

