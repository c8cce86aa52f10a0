theorem p5le {n : Nat} (h : n ≤ 4) : 5 ^ n ≤ 625 := by
  have : n = 0 ∨ n = 1 ∨ n = 2 ∨ n = 3 ∨ n = 4 := by omega
  rcases this with rfl | rfl | rfl | rfl | rfl <;> decide
theorem x_cadd_I (k x : Int64) : ∀ (n i : Nat) (t : St), (x_cadd k x n i t).2.1 = t.2.1
  | 0, _, _ => rfl
  | n + 1, i, t => by rw [x_cadd, x_cadd_I k x n]; split <;> rfl
theorem x_cutsAdd_I (k x : Int64) (t : St) : (x_cutsAdd k x t).2.1 = t.2.1 := x_cadd_I k x _ _ _
theorem x_cclr_I : ∀ (n i : Nat) (t : St), (x_cclr n i t).2.1 = t.2.1
  | 0, _, _ => rfl
  | n + 1, i, t => by rw [x_cclr, x_cclr_I n]; rfl
theorem x_more_I (i : Nat) (k : Int64) (t : St) : (x_more i k t).2.1 = t.2.1 := x_cutsAdd_I _ _ _
theorem x_fillT_I (i : Nat) (k : Int64) (t : St) : (x_fillT i k t).2.1 = t.2.1 := by unfold x_fillT; split; rfl; exact x_cutsAdd_I _ _ _
theorem x_stp_I (i : Nat) (t : St) : (x_stp i t).2.1 = t.2.1 := by unfold x_stp; split; exact x_more_I _ _ _; exact x_fillT_I _ _ _
theorem x_gw_I : ∀ (n i : Nat) (t : St), (x_gw n i t).2.1 = t.2.1
  | 0, _, _ => rfl
  | n + 1, i, t => by rw [x_gw, x_gw_I n, x_more_I]
theorem x_gt_I : ∀ (n i : Nat) (t : St), (x_gt n i t).2.1 = t.2.1
  | 0, _, _ => rfl
  | n + 1, i, t => by rw [x_gt, x_gt_I n, x_fillT_I]; rfl
theorem x_gath_I (t : St) : (x_gath t).2.1 = t.2.1 := by rw [x_gath, x_gt_I, x_gw_I, x_g0, x_cclr_I]; rfl
theorem x_put_I (a b : Int64) (t : St) : (x_put a b t).2.1 = t.2.1 := by unfold x_put; split <;> rfl
theorem x_read_I (k : Nat) (d : Int64) (t : St) : (x_read k d t).2.1 = t.2.1 := by unfold x_read; split <;> (try split) <;> (try split) <;> exact x_put_I _ _ _
theorem x_work_I (w : Int32) (t : St) : (x_work w t).2.1 = t.2.1 := by
  unfold x_work
  repeat' split
  all_goals first | exact x_put_I _ _ _ | exact x_read_I _ _ _ | exact (x_put_I _ _ _).trans (x_read_I _ _ _)
theorem x_bt_I (n : Nat) (t : St) : (x_bt n t).2.1 = t.2.1 := by unfold x_bt; split; rfl; split; rfl; split; rfl; exact x_work_I _ _
theorem x_lb_I : ∀ (n i : Nat) (t : St), (x_lb n i t).2.2.1 = t.2.1
  | 0, _, _ => rfl
  | n + 1, i, t => by rw [x_lb]; split; exact x_bt_I _ _; rw [x_lb_I n, x_bt_I]
theorem EO.same {a b : St} (h : EO b) (h1 : a.2.1 = b.2.1) (h2 : a.2.2.2 4 = b.2.2.2 4) : EO a := by unfold EO at *; rw [h1, h2]; exact h
noncomputable def x_br : Nat → Nat → St → Int32 × St
  | 0, _, t => (-1, t)
  | n + 1, i, t => if x_lbn (x_stp i t) = 0 then x_br n (i + 1) (x_lbt (x_stp i t)) else (nI i, x_lbt (x_stp i t))
noncomputable def x_broken (t : St) : Int32 × St := x_br (t.2.2.2 4) 0 (x_gath t)
def x_sl : Nat → Nat → St → St
  | 0, _, t => t
  | n + 1, i, t => x_sl n (i + 1) (x_stp i t)
theorem x_sl_N : ∀ (n i : Nat) (t : St), (x_sl n i t).2.2.2 = t.2.2.2
  | 0, _, _ => rfl
  | n + 1, i, t => by rw [x_sl, x_sl_N n, x_stp_N]
def x_cnt (w : Int32) (t : St) : Int32 := if w = 0 then nI (t.2.2.2 0) else if w = 1 then nI (t.2.2.2 1) else if w = 2 then nI (t.2.2.2 2) else if w = 3 then nI (t.2.2.2 3) else if w = 4 then nI (t.2.2.2 4) else if w = 5 then nI (x_cs t (t.2.2.2 1) 0 0) else -1
abbrev x_hullp (a b : Int64) : Prop := x_pl a ∧ x_pl b ∧ a < b
def x_hullt (a b : Int64) (t : St) : St := if x_hullp a b then sF (sF t 0 a) 1 b else t

