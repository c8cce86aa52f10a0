def x_set : Nat → Nat → St → St
  | 0, _, t => t
  | n + 1, r, t => x_set n (r / 5) (x_fillT n (t.1 4 n / 4 * (nI (r % 5)).toInt64) t)
theorem x_set_N : ∀ (n r : Nat) (t : St), (x_set n r t).2.2.2 = t.2.2.2
  | 0, _, _ => rfl
  | n + 1, r, t => by rw [x_set, x_set_N n, x_fillT_N]
def x_tw (c : Nat) (t : St) : St := x_set (t.2.2.2 1) c t
theorem x_tw_N (c : Nat) (t : St) : (x_tw c t).2.2.2 = t.2.2.2 := x_set_N _ _ _
noncomputable abbrev x_lbn (t : St) : Nat := (x_lb (t.2.2.2 3) 1 t).1
noncomputable abbrev x_lbt (t : St) : St := (x_lb (t.2.2.2 3) 1 t).2
theorem x_lb_le : ∀ (n i : Nat) (t : St), (x_lb n i t).1 ≤ i + n
  | 0, i, t => Nat.zero_le _
  | n + 1, i, t => by
    rw [x_lb]; split
    · omega
    · have := x_lb_le n (i + 1) (x_bt i t); omega
noncomputable def x_fp : Nat → Nat → Int64 → St → Int64 × St
  | 0, _, b, t => (b, t)
  | n + 1, c, b, t =>
    if b = -1 ∨ x_wk (x_tw c t) ((x_tw c t).2.2.2 1) 0 0 < b then
      if x_lbn (x_tw c t) = 0 then x_fp n (c + 1) (x_wk (x_tw c t) ((x_tw c t).2.2.2 1) 0 0) (x_kt ((x_lbt (x_tw c t)).2.2.2 1) 0 (x_lbt (x_tw c t)))
      else x_fp n (c + 1) b (x_lbt (x_tw c t))
    else x_fp n (c + 1) b (x_tw c t)
theorem x_fp_N : ∀ (n c : Nat) (b : Int64) (t : St), (x_fp n c b t).2.2.2.2 = t.2.2.2
  | 0, _, _, _ => rfl
  | n + 1, c, b, t => by
    rw [x_fp]; split
    · split
      · rw [x_fp_N n, x_kt_N, x_lb_N, x_tw_N]
      · rw [x_fp_N n, x_lb_N, x_tw_N]
    · rw [x_fp_N n, x_tw_N]
noncomputable def x_pump (t : St) : Int64 × St := x_fp (5 ^ t.2.2.2 1) 0 (-1) (x_gath t)
theorem x_pump_6 (t : St) : (x_pump t).2.2.2.2 0 = t.2.2.2 0 ∧ (x_pump t).2.2.2.2 1 = t.2.2.2 1 ∧ (x_pump t).2.2.2.2 2 = t.2.2.2 2 ∧ (x_pump t).2.2.2.2 3 = t.2.2.2 3 ∧ (x_pump t).2.2.2.2 4 = t.2.2.2 4 ∧ (x_pump t).2.2.2.2 5 = t.2.2.2 3 := by rw [x_pump, x_fp_N]; exact x_gath_6 t
def EO (t : St) : Prop := ∀ i, i < t.2.2.2 4 → t.2.1 2 i = nI (t.2.1 2 i).toNatClampNeg ∧ (t.2.1 1 i = 0 → (t.2.1 2 i).toNatClampNeg < 40) ∧ (¬ t.2.1 1 i = 0 → (t.2.1 2 i).toNatClampNeg < 4)

