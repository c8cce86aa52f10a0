abbrev St : Type := (Nat → Nat → Int64) × (Nat → Nat → Int32) × (Nat → Int64) × (Nat → Nat)
def sL (t : St) (k j : Nat) (v : Int64) : St := (va_up t.1 k (vp_updL (t.1 k) j v), t.2.1, t.2.2.1, t.2.2.2)
def sI (t : St) (k j : Nat) (v : Int32) : St := (t.1, va_up t.2.1 k (upd (t.2.1 k) j v), t.2.2.1, t.2.2.2)
def sF (t : St) (k : Nat) (v : Int64) : St := (t.1, t.2.1, va_up t.2.2.1 k v, t.2.2.2)
def sN (t : St) (k : Nat) (v : Nat) : St := (t.1, t.2.1, t.2.2.1, va_up t.2.2.2 k v)
abbrev TY (T : Nat → ClassId) : List (ClassId × FieldType) := [(T 0, .long), (T 1, .int), (T 2, .boolean)]
theorem bz_nar {v : Int32} {P : Prop} (h : bz v P) : narrow .boolean (.int v) = .int v := by
  rcases h with ⟨rfl, -⟩ | ⟨rfl, -⟩ <;> decide
abbrev N6p (a b : St) : Prop := a.2.2.2 0 = b.2.2.2 0 ∧ a.2.2.2 1 = b.2.2.2 1 ∧ a.2.2.2 2 = b.2.2.2 2 ∧ a.2.2.2 3 = b.2.2.2 3 ∧ a.2.2.2 4 = b.2.2.2 4 ∧ a.2.2.2 5 = b.2.2.2 5
theorem nsix {a b : St} (h : a.2.2.2 = b.2.2.2) : N6p a b := by rw [N6p, h]; exact ⟨rfl, rfl, rfl, rfl, rfl, rfl⟩
def Iv (t : St) : Prop := t.2.2.2 0 ≤ 40 ∧ t.2.2.2 1 ≤ 4 ∧ t.2.2.2 2 ≤ 12 ∧ t.2.2.2 3 ≤ 10 ∧ t.2.2.2 4 ≤ 20 ∧ t.2.2.2 5 ≤ 10
theorem nz0 {n : Nat} (h : n < 2 ^ 31) : nI n = 0 ↔ n = 0 := ⟨fun z => (nI_eq h (by omega)).mp (z.trans nI_0.symm), fun z => by rw [z]; exact nI_0⟩
theorem im1 (x : Int32) : x + Int32.ofInt (-1) = x - 1 := by rw [Int32.sub_eq_add_neg]; rfl
theorem ne_toInt {x k : Int32} {a : Int} (h : ¬ x = k) (hk : k.toInt = a) : x.toInt ≠ a := fun z => h (Int32.toInt_inj.mp (z.trans hk.symm))
theorem sw_out1_7 {x : Int32} (h1 : ¬ x = 1) (h2 : ¬ x = 2) (h3 : ¬ x = 3) (h4 : ¬ x = 4) (h5 : ¬ x = 5) (h6 : ¬ x = 6) (h7 : ¬ x = 7) : x.toInt < 1 ∨ 7 < x.toInt := by
  have a1 := ne_toInt h1 (a := 1) rfl; have a2 := ne_toInt h2 (a := 2) rfl; have a3 := ne_toInt h3 (a := 3) rfl; have a4 := ne_toInt h4 (a := 4) rfl; have a5 := ne_toInt h5 (a := 5) rfl; have a6 := ne_toInt h6 (a := 6) rfl; have a7 := ne_toInt h7 (a := 7) rfl
  omega
theorem sw_out0_5 {x : Int32} (h0 : ¬ x = 0) (h1 : ¬ x = 1) (h2 : ¬ x = 2) (h3 : ¬ x = 3) (h4 : ¬ x = 4) (h5 : ¬ x = 5) : x.toInt < 0 ∨ 5 < x.toInt := by
  have a0 := ne_toInt h0 (a := 0) rfl; have a1 := ne_toInt h1 (a := 1) rfl; have a2 := ne_toInt h2 (a := 2) rfl; have a3 := ne_toInt h3 (a := 3) rfl; have a4 := ne_toInt h4 (a := 4) rfl; have a5 := ne_toInt h5 (a := 5) rfl
  omega
def wS (ad : Nat → Nat) (T : Nat → ClassId) (t : St) : va_W := [(ad 0, .inr (0, [.ref (ad 1), .ref (ad 2), .ref (ad 3), .ref (ad 4), .ref (ad 5), .ref (ad 6), .ref (ad 7), .ref (ad 8), .long (t.2.2.1 0), .long (t.2.2.1 1)])), (ad 1, .inr (1, [.ref (ad 9), .ref (ad 10), .ref (ad 11), .ref (ad 12), .int (nI (t.2.2.2 0))])), (ad 2, .inr (2, [.ref (ad 13), .ref (ad 14), .ref (ad 15), .ref (ad 16), .ref (ad 17), .ref (ad 18), .ref (ad 19), .ref (ad 20), .int (nI (t.2.2.2 1))])), (ad 3, .inr (3, [.ref (ad 21), .ref (ad 22), .ref (ad 23), .int (nI (t.2.2.2 2))])), (ad 4, .inr (4, [.ref (ad 24), .ref (ad 25), .ref (ad 26), .int (nI (t.2.2.2 3))])), (ad 5, .inr (5, [.ref (ad 27), .ref (ad 28), .ref (ad 29), .int (nI (t.2.2.2 4))])), (ad 6, .inr (6, [.long (t.2.2.1 2), .long (t.2.2.1 3), .long (t.2.2.1 4), .long (t.2.2.1 5), .long (t.2.2.1 6)])), (ad 7, .inr (7, [.ref (ad 30), .ref (ad 31), .ref (ad 32), .int (nI (t.2.2.2 5))])), (ad 8, .inr (8, [.long (t.2.2.1 7), .long (t.2.2.1 8)])), (ad 9, .inl (T 0, 40, .inr (.inl (t.1 0)))), (ad 10, .inl (T 0, 40, .inr (.inl (t.1 1)))), (ad 11, .inl (T 0, 40, .inr (.inl (t.1 2)))), (ad 12, .inl (T 0, 40, .inr (.inl (t.1 3)))), (ad 13, .inl (T 0, 4, .inr (.inl (t.1 4)))), (ad 14, .inl (T 0, 4, .inr (.inl (t.1 5)))), (ad 15, .inl (T 0, 4, .inr (.inl (t.1 6)))), (ad 16, .inl (T 0, 4, .inr (.inl (t.1 7)))), (ad 17, .inl (T 0, 4, .inr (.inl (t.1 8)))), (ad 18, .inl (T 0, 4, .inr (.inl (t.1 9)))), (ad 19, .inl (T 0, 4, .inr (.inl (t.1 10)))), (ad 20, .inl (T 0, 4, .inr (.inl (t.1 11)))), (ad 21, .inl (T 0, 12, .inr (.inl (t.1 12)))), (ad 22, .inl (T 0, 12, .inr (.inl (t.1 13)))), (ad 23, .inl (T 0, 12, .inr (.inl (t.1 14)))), (ad 24, .inl (T 1, 11, .inl (t.2.1 0))), (ad 25, .inl (T 0, 11, .inr (.inl (t.1 15)))), (ad 26, .inl (T 0, 11, .inr (.inl (t.1 16)))), (ad 27, .inl (T 2, 20, .inl (t.2.1 1))), (ad 28, .inl (T 1, 20, .inl (t.2.1 2))), (ad 29, .inl (T 0, 20, .inr (.inl (t.1 17)))), (ad 30, .inl (T 0, 11, .inr (.inl (t.1 18)))), (ad 31, .inl (T 0, 11, .inr (.inl (t.1 19)))), (ad 32, .inl (T 0, 11, .inr (.inl (t.1 20))))]
abbrev x_in (n a b : Int64) : Prop := a ≤ n ∧ n ≤ b
def x_fdiv (x y : Int64) : Int64 := if (x ^^^ y) < 0 ∧ ¬ x / y * y = x then x / y - 1 else x / y
def x_dd (x y : Int64) : Int64 := if 0 < y then x_fdiv x y else 0
def x_uclr (t : St) : St := sF (sF (sF (sF (sF t 2 0) 3 0) 4 0) 5 0) 6 0
def x_uadd (k x y z : Int64) (t : St) : St := sF (sF (sF (sF t 2 (t.2.2.1 2 + k)) 3 (t.2.2.1 3 + k * x)) 4 (t.2.2.1 4 + k * y)) 5 (t.2.2.1 5 + k * z)
def x_cclr : Nat → Nat → St → St
  | 0, _, t => t
  | n + 1, i, t => x_cclr n (i + 1) (sL (sL t 19 i 0) 20 i 0)
def x_cadd (k x : Int64) : Nat → Nat → St → St
  | 0, _, t => t
  | n + 1, i, t => x_cadd k x n (i + 1) (if x < t.1 18 i then sL (sL t 19 i (t.1 19 i + k)) 20 i (t.1 20 i + k * (t.1 18 i - x)) else t)
def x_cutsAdd (k x : Int64) (t : St) : St := x_cadd k x (t.2.2.2 5 + 1) 0 t
abbrev x_pl (n : Int64) : Prop := x_in n (-10000) 10000
abbrev x_pls (x y z : Int64) : Prop := x_pl x ∧ x_pl y ∧ x_pl z
theorem x_uadd_N (k x y z : Int64) (t : St) : (x_uadd k x y z t).2.2.2 = t.2.2.2 := rfl
theorem x_cadd_N (k x : Int64) : ∀ (n i : Nat) (t : St), (x_cadd k x n i t).2.2.2 = t.2.2.2
  | 0, _, _ => rfl
  | n + 1, i, t => by rw [x_cadd, x_cadd_N k x n]; split <;> rfl
theorem x_cutsAdd_N (k x : Int64) (t : St) : (x_cutsAdd k x t).2.2.2 = t.2.2.2 := x_cadd_N k x _ _ _
theorem x_cclr_N : ∀ (n i : Nat) (t : St), (x_cclr n i t).2.2.2 = t.2.2.2
  | 0, _, _ => rfl
  | n + 1, i, t => by rw [x_cclr, x_cclr_N n]; rfl
def x_wapp (a b c d : Int64) (t : St) : St := sN (sL (sL (sL (sL t 0 (t.2.2.2 0) a) 1 (t.2.2.2 0) b) 2 (t.2.2.2 0) c) 3 (t.2.2.2 0) d) 0 (t.2.2.2 0 + 1)
def x_tapp (a b c d e : Int64) (t : St) : St := sN (sL (sL (sL (sL (sL t 4 (t.2.2.2 1) a) 5 (t.2.2.2 1) b) 6 (t.2.2.2 1) c) 7 (t.2.2.2 1) d) 8 (t.2.2.2 1) e) 1 (t.2.2.2 1 + 1)
def x_bapp (a b c : Int64) (t : St) : St := sN (sL (sL (sL t 12 (t.2.2.2 2) a) 13 (t.2.2.2 2) b) 14 (t.2.2.2 2) c) 2 (t.2.2.2 2 + 1)
def x_lapp (a : Int32) (b c : Int64) (t : St) : St := sL (sL (sI (sN t 3 (t.2.2.2 3 + 1)) 0 (t.2.2.2 3 + 1) a) 15 (t.2.2.2 3 + 1) b) 16 (t.2.2.2 3 + 1) c
def x_eapp (a b : Int32) (c : Int64) (t : St) : St := sN (sL (sI (sI t 1 (t.2.2.2 4) (vp_nar .boolean a)) 2 (t.2.2.2 4) b) 17 (t.2.2.2 4) c) 4 (t.2.2.2 4 + 1)
abbrev x_slack (t : St) (i : Nat) (k : Int64) : Prop := 0 < k ∧ k < t.1 4 i
def x_surf (t : St) (i : Nat) (k : Int64) : Int64 := if x_slack t i k then t.1 5 i else 0
def x_cs (t : St) : Nat → Nat → Nat → Nat
  | 0, _, a => a
  | n + 1, i, a => x_cs t n (i + 1) (if x_slack t i (t.1 9 i) then a + 1 else a)
def x_abs (x : Int64) : Int64 := if 0 < x then x else -x
def x_wk (t : St) : Nat → Nat → Int64 → Int64
  | 0, _, a => a
  | n + 1, i, a => x_wk t n (i + 1) (a + x_abs (t.1 10 i - t.1 9 i))
def x_kt : Nat → Nat → St → St
  | 0, _, t => t
  | n + 1, i, t => x_kt n (i + 1) (sL t 11 i (t.1 10 i))
theorem x_kt_N : ∀ (n i : Nat) (t : St), (x_kt n i t).2.2.2 = t.2.2.2
  | 0, _, _ => rfl
  | n + 1, i, t => by rw [x_kt, x_kt_N n]; rfl
def x_last (t : St) : Int64 := if t.2.2.2 2 = 0 then 0 else t.1 12 (t.2.2.2 2 - 1)
def x_put (a b : Int64) (t : St) : St := if b = 0 then sF (sF t 7 0) 8 1 else sF (sF t 7 (if 0 ≤ b then a else -a)) 8 (if 0 ≤ b then b else -b)
theorem x_put_N (a b : Int64) (t : St) : (x_put a b t).2.2.2 = t.2.2.2 := by unfold x_put; split <;> rfl
def x_abv (t : St) (d : Int64) : Nat → Nat → Nat
  | 0, i => i
  | n + 1, i => if d ≤ t.1 12 i then i else x_abv t d n (i + 1)
def x_read (k : Nat) (d : Int64) (t : St) : St :=
  if t.2.2.2 2 = 0 then x_put 0 1 t else if x_abv t d (t.2.2.2 2) 0 = 0 then x_put (t.1 k 0) 1 t else if x_abv t d (t.2.2.2 2) 0 = t.2.2.2 2 then x_put (t.1 k (t.2.2.2 2 - 1)) 1 t
  else x_put (t.1 k (x_abv t d (t.2.2.2 2) 0 - 1) * (t.1 12 (x_abv t d (t.2.2.2 2) 0) - t.1 12 (x_abv t d (t.2.2.2 2) 0 - 1)) + (t.1 k (x_abv t d (t.2.2.2 2) 0) - t.1 k (x_abv t d (t.2.2.2 2) 0 - 1)) * (d - t.1 12 (x_abv t d (t.2.2.2 2) 0 - 1))) (t.1 12 (x_abv t d (t.2.2.2 2) 0) - t.1 12 (x_abv t d (t.2.2.2 2) 0 - 1)) t
theorem x_read_N (k : Nat) (d : Int64) (t : St) : (x_read k d t).2.2.2 = t.2.2.2 := by unfold x_read; split <;> (try split) <;> (try split) <;> exact x_put_N _ _ _
abbrev x_alw (t : St) (n : Nat) (a b : Int64) : Prop := t.1 15 n ≤ a ∧ b ≤ t.1 16 n
def x_gcd : Nat → Int64 → Int64 → Int64
  | 0, a, _ => a
  | n + 1, a, b => if b = 0 then a else x_gcd n b (a - a / b * b)
def x_red (t : St) : St := if x_gcd 1000 (x_abs (t.2.2.1 7)) (t.2.2.1 8) ≤ 1 then t else sF (sF t 7 (t.2.2.1 7 / x_gcd 1000 (x_abs (t.2.2.1 7)) (t.2.2.1 8))) 8 (t.2.2.1 8 / x_gcd 1000 (x_abs (t.2.2.1 7)) (t.2.2.1 8))
def x_more (i : Nat) (k : Int64) (t : St) : St := x_cutsAdd k (t.1 1 i) (x_uadd k (t.1 1 i) (t.1 2 i) (t.1 3 i) t)
theorem x_more_N (i : Nat) (k : Int64) (t : St) : (x_more i k t).2.2.2 = t.2.2.2 := x_cutsAdd_N _ _ _
def x_fillT (i : Nat) (k : Int64) (t : St) : St := if k - t.1 10 i = 0 then t else
  sL (x_cutsAdd (k - t.1 10 i) (t.1 6 i) (x_uadd (k - t.1 10 i) (t.1 6 i) (t.1 7 i) (t.1 8 i) (sF (sF t 6 (t.2.2.1 6 - x_surf t i (t.1 10 i))) 6 (t.2.2.1 6 - x_surf t i (t.1 10 i) + x_surf t i k)))) 10 i k
theorem x_fillT_N (i : Nat) (k : Int64) (t : St) : (x_fillT i k t).2.2.2 = t.2.2.2 := by unfold x_fillT; split; rfl; exact x_cutsAdd_N _ _ _
def x_stp (i : Nat) (t : St) : St := if t.2.1 1 i = 0 then x_more (t.2.1 2 i).toNatClampNeg (t.1 17 i) t else x_fillT (t.2.1 2 i).toNatClampNeg (t.1 17 i) t
theorem x_stp_N (i : Nat) (t : St) : (x_stp i t).2.2.2 = t.2.2.2 := by unfold x_stp; split; exact x_more_N _ _ _; exact x_fillT_N _ _ _
def x_gw : Nat → Nat → St → St
  | 0, _, t => t
  | n + 1, i, t => x_gw n (i + 1) (x_more i (t.1 0 i) t)
theorem x_gw_N : ∀ (n i : Nat) (t : St), (x_gw n i t).2.2.2 = t.2.2.2
  | 0, _, _ => rfl
  | n + 1, i, t => by rw [x_gw, x_gw_N n, x_more_N]
def x_gt : Nat → Nat → St → St
  | 0, _, t => t
  | n + 1, i, t => x_gt n (i + 1) (x_fillT i (t.1 9 i) (sL t 10 i 0))
theorem x_gt_N : ∀ (n i : Nat) (t : St), (x_gt n i t).2.2.2 = t.2.2.2
  | 0, _, _ => rfl
  | n + 1, i, t => by rw [x_gt, x_gt_N n, x_fillT_N]; rfl
def x_g0 (t : St) : St := x_cclr (t.2.2.2 3 + 1) 0 (sN (x_uclr t) 5 (t.2.2.2 3))
def x_gath (t : St) : St := x_gt (t.2.2.2 1) 0 (x_gw (t.2.2.2 0) 0 (x_g0 t))
theorem x_gath_N (t : St) : (x_gath t).2.2.2 = va_up t.2.2.2 5 (t.2.2.2 3) := by rw [x_gath, x_gt_N, x_gw_N, x_g0, x_cclr_N]; rfl
theorem x_gath_6 (t : St) : (x_gath t).2.2.2 0 = t.2.2.2 0 ∧ (x_gath t).2.2.2 1 = t.2.2.2 1 ∧ (x_gath t).2.2.2 2 = t.2.2.2 2 ∧ (x_gath t).2.2.2 3 = t.2.2.2 3 ∧ (x_gath t).2.2.2 4 = t.2.2.2 4 ∧ (x_gath t).2.2.2 5 = t.2.2.2 3 := by rw [x_gath_N]; exact ⟨rfl, rfl, rfl, rfl, rfl, rfl⟩
abbrev x_noans (w : Int32) (t : St) : Prop := t.2.2.1 2 = 0 ∧ ¬ w = 0 ∧ ¬ w = 6
def x_work (w : Int32) (t : St) : St :=
  if w = 1 then x_put (t.2.2.1 3) (t.2.2.1 2) t else if w = 2 then x_put (t.2.2.1 4) (t.2.2.1 2) t else if w = 3 then x_put (t.2.2.1 5) (t.2.2.1 2) t
  else if w = 4 then x_put (t.2.2.1 5 + t.2.2.1 6) (t.2.2.1 2) t
  else if w = 5 then x_put ((x_read 13 (t.2.2.1 2) t).2.2.1 7 * t.2.2.1 2 - ((x_read 13 (t.2.2.1 2) t).2.2.1 5 + (x_read 13 (t.2.2.1 2) t).2.2.1 6) * (x_read 13 (t.2.2.1 2) t).2.2.1 8) ((x_read 13 (t.2.2.1 2) t).2.2.1 8 * t.2.2.1 2) (x_read 13 (t.2.2.1 2) t)
  else if w = 6 then x_read 14 (t.2.2.1 2) t else if w = 7 then x_put (2 * t.2.2.1 3 - t.2.2.1 2 * (t.2.2.1 0 + t.2.2.1 1)) (2 * t.2.2.1 2) t else x_put (t.2.2.1 2) 1 t
theorem x_work_N (w : Int32) (t : St) : (x_work w t).2.2.2 = t.2.2.2 := by
  unfold x_work
  repeat' split
  all_goals first | exact x_put_N _ _ _ | exact x_read_N _ _ _ | exact (x_put_N _ _ _).trans (x_read_N _ _ _)
def x_shear (t : St) (c : Nat) : Int64 := if t.1 18 c ≤ t.2.2.1 0 then t.1 19 c else if t.2.2.1 1 ≤ t.1 18 c then t.1 19 c - t.2.2.1 2 else x_dd (t.1 19 c * (t.2.2.1 1 - t.2.2.1 0) - t.2.2.1 2 * (t.1 18 c - t.2.2.1 0)) (t.2.2.1 1 - t.2.2.1 0)
def x_bend (t : St) (c : Nat) : Int64 := if t.1 18 c ≤ t.2.2.1 0 then t.1 20 c else if t.2.2.1 1 ≤ t.1 18 c then x_dd (2 * t.1 20 c - t.2.2.1 2 * (2 * t.1 18 c - t.2.2.1 0 - t.2.2.1 1)) 2 else x_dd (t.1 20 c * (2 * (t.2.2.1 1 - t.2.2.1 0)) - t.2.2.1 2 * (t.1 18 c - t.2.2.1 0) * (t.1 18 c - t.2.2.1 0)) (2 * (t.2.2.1 1 - t.2.2.1 0))
abbrev x_flr (t : St) : Int64 := x_dd (t.2.2.1 7) (t.2.2.1 8)
abbrev x_cei (t : St) : Int64 := -(x_dd (-(t.2.2.1 7)) (t.2.2.1 8))
def x_bt (n : Nat) (t : St) : St := if t.2.1 0 n = 8 then t else if t.2.1 0 n = 9 then t else if x_noans (t.2.1 0 n) t then t else x_work (t.2.1 0 n) t
theorem x_bt_N (n : Nat) (t : St) : (x_bt n t).2.2.2 = t.2.2.2 := by unfold x_bt; split; rfl; split; rfl; split; rfl; exact x_work_N _ _
def x_bp (n : Nat) (t : St) : Prop := if t.2.1 0 n = 8 then ¬ x_alw t n (x_shear t n) (x_shear t n) else if t.2.1 0 n = 9 then ¬ x_alw t n (x_bend t n) (x_bend t n) else if x_noans (t.2.1 0 n) t then True else ¬ x_alw (x_work (t.2.1 0 n) t) n (x_flr (x_work (t.2.1 0 n) t)) (x_cei (x_work (t.2.1 0 n) t))
noncomputable def x_lb : Nat → Nat → St → Nat × St
  | 0, _, t => (0, t)
  | n + 1, i, t => @ite _ (x_bp i t) (Classical.propDecidable _) (i, x_bt i t) (x_lb n (i + 1) (x_bt i t))
theorem x_lb_N : ∀ (n i : Nat) (t : St), (x_lb n i t).2.2.2.2 = t.2.2.2
  | 0, _, _ => rfl
  | n + 1, i, t => by rw [x_lb]; split; exact x_bt_N _ _; rw [x_lb_N n, x_bt_N]

