theorem i64_toInt (a : Int32) : a.toInt64.toInt = a.toInt := Int32.toInt_toInt64 a
theorem xi_th {a : Int32} {n : Nat} {v : Int64} (e : v = (nI n).toInt64 - 1) (h : n ≤ 1000) : x_in a.toInt64 0 v ↔ x_th a n := by
  have e2 : v.toInt = (n : Int) - 1 := by
    rw [e, nI_l (by omega), Int64.toInt_sub, lN_toInt (by omega), show (1 : Int64).toInt = 1 from rfl, Int.bmod_eq_of_le (by omega) (by omega)]
  rw [x_in, x_th, Int64.le_iff_toInt_le, Int64.le_iff_toInt_le, Int32.lt_iff_toInt_lt, Int32.le_iff_toInt_le, i64_toInt, e2, nI_toInt (by omega)]
  show (0 : Int) ≤ _ ∧ _ ↔ ¬ _ < (0 : Int) ∧ _
  omega
theorem xi_07 {a b : Int32} : (x_in a.toInt64 0 7 ∧ x_in b.toInt64 0 2) ↔ okV a b := by
  simp only [x_in, okV, Int64.le_iff_toInt_le, Int32.lt_iff_toInt_lt, Int32.le_iff_toInt_le, i64_toInt]
  show ((0 : Int) ≤ _ ∧ _ ≤ (7 : Int)) ∧ (0 : Int) ≤ _ ∧ _ ≤ (2 : Int) ↔ ¬ _ < (0 : Int) ∧ ¬ (7 : Int) < _ ∧ ¬ _ < (0 : Int) ∧ _ ≤ (2 : Int)
  omega
theorem xi_09 {a : Int32} : x_in a.toInt64 0 9 ↔ (¬ a < 0 ∧ ¬ 9 < a) := by
  simp only [x_in, Int64.le_iff_toInt_le, Int32.lt_iff_toInt_lt, i64_toInt]
  show (0 : Int) ≤ _ ∧ _ ≤ (9 : Int) ↔ ¬ _ < (0 : Int) ∧ ¬ (9 : Int) < _
  omega
abbrev okLx (w : Int32) (x a b : Int64) : Prop := x_in w.toInt64 0 9 ∧ ¬ b < a ∧ ¬ a < -10000000000000 ∧ ¬ 10000000000000 < b ∧ x_pl x
abbrev okHx (a b c : Int64) (t : St) : Prop := x_in a 1 5000000 ∧ x_pl b ∧ x_pl c ∧ x_last t < a
def x_pn (a : Int32) (t : St) : Nat := if a = 0 then t.2.2.2 0 else t.2.2.2 1
def x_pk (a b : Int32) (c : Int64) (t : St) : Prop := if a = 0 then x_in c (-100000) 100000 else x_in c 0 (t.1 4 b.toNatClampNeg)
def x_vt (a b : Int32) (t : St) : St := if b = 0 then x_work a (x_gath t) else x_red (x_work a (x_gath t))
def x_vv (a b : Int32) (t : St) : Int64 := if b = 0 then x_flr (x_work a (x_gath t)) else if b = 1 then (x_red (x_work a (x_gath t))).2.2.1 7 else (x_red (x_work a (x_gath t))).2.2.1 8
abbrev x_sg (a : Int64) (t : St) : St := x_gath (sL t 18 0 a)
noncomputable abbrev x_fv (a : Int32) (t : St) : Int64 := if (x_pump t).1 = -1 then -1 else (x_pump t).2.1 11 a.toNatClampNeg
abbrev x_ss (a : Int32) (t : St) : St := x_sl (a.toNatClampNeg + 1) 0 (x_gath t)
theorem sN_5 (t : St) (j : Nat) (v : Int64) (k i : Nat) : (sL t k j v).2.2.2 i = t.2.2.2 i := rfl

