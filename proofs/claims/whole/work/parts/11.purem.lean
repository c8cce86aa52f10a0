def wM (ad : Nat → Nat) (T : Nat → ClassId) (t : St) : va_W := [(ad 0, .inr (9, [.int (nI (t.2.2.2 0)), .int (nI (t.2.2.2 1)), .ref (ad 1), .ref (ad 2), .ref (ad 3), .ref (ad 4), .int (nI (t.2.2.2 2)), .ref (ad 5), .ref (ad 6), .ref (ad 7), .ref (ad 8), .ref (ad 9), .ref (ad 10), .ref (ad 11), .ref (ad 12), .ref (ad 13), .int (nI (t.2.2.2 3)), .ref (ad 14), .ref (ad 15), .ref (ad 16), .long (t.2.2.1 0), .long (t.2.2.1 1), .int (nI (t.2.2.2 4)), .ref (ad 17), .ref (ad 18), .ref (ad 19), .ref (ad 20), .int (nI (t.2.2.2 5)), .ref (ad 21), .ref (ad 22), .ref (ad 23), .long (t.2.2.1 2), .long (t.2.2.1 3)])), (ad 1, .inl (T 0, 40, .inr (.inl (t.1 0)))), (ad 2, .inl (T 0, 40, .inr (.inl (t.1 1)))), (ad 3, .inl (T 0, 40, .inr (.inl (t.1 2)))), (ad 4, .inl (T 0, 40, .inr (.inl (t.1 3)))), (ad 5, .inl (T 0, 4, .inr (.inl (t.1 4)))), (ad 6, .inl (T 0, 4, .inr (.inl (t.1 5)))), (ad 7, .inl (T 0, 4, .inr (.inl (t.1 6)))), (ad 8, .inl (T 0, 4, .inr (.inl (t.1 7)))), (ad 9, .inl (T 0, 4, .inr (.inl (t.1 8)))), (ad 10, .inl (T 0, 4, .inr (.inl (t.1 9)))), (ad 11, .inl (T 0, 40, .inr (.inl (t.1 10)))), (ad 12, .inl (T 0, 4, .inr (.inl (t.1 11)))), (ad 13, .inl (T 0, 4, .inr (.inl (t.1 12)))), (ad 14, .inl (T 0, 12, .inr (.inl (t.1 13)))), (ad 15, .inl (T 0, 12, .inr (.inl (t.1 14)))), (ad 16, .inl (T 0, 12, .inr (.inl (t.1 15)))), (ad 17, .inl (T 1, 10, .inl (t.2.1 0))), (ad 18, .inl (T 0, 10, .inr (.inl (t.1 16)))), (ad 19, .inl (T 0, 10, .inr (.inl (t.1 17)))), (ad 20, .inl (T 0, 10, .inr (.inl (t.1 18)))), (ad 21, .inl (T 2, 20, .inl (t.2.1 1))), (ad 22, .inl (T 1, 20, .inl (t.2.1 2))), (ad 23, .inl (T 0, 20, .inr (.inl (t.1 19))))]
theorem va_up_cm {α : Type} (f : Nat → α) {j k : Nat} (a b : α) (h : j ≠ k) : va_up (va_up f j a) k b = va_up (va_up f k b) j a := by
  funext q; simp only [va_up]; by_cases h1 : q = k
  · rw [if_pos h1, if_neg (by omega), if_pos h1]
  · simp only [h1, if_false]
theorem sF_idem (t : St) (k : Nat) (a b : Int64) : sF (sF t k a) k b = sF t k b := by
  show (t.1, t.2.1, va_up (va_up t.2.2.1 k a) k b, t.2.2.2) = _
  rw [bx_uu]; rfl
theorem sF_c32 (t : St) (a b : Int64) : sF (sF t 3 a) 2 b = sF (sF t 2 b) 3 a := by
  show (t.1, t.2.1, va_up (va_up t.2.2.1 3 a) 2 b, t.2.2.2) = _
  rw [va_up_cm _ _ _ (by decide)]; rfl
def IvM (t : St) : Prop := t.2.2.2 1 ≤ 40 ∧ t.2.2.2 2 ≤ 4 ∧ t.2.2.2 3 ≤ 12 ∧ t.2.2.2 4 ≤ 10 ∧ t.2.2.2 5 ≤ 20
def y_fl (a b : Int64) : Int64 := if a - a / b * b = 0 then a / b else if 0 ≤ a then (if 0 ≤ b then a / b else a / b - 1) else (if 0 ≤ b then a / b - 1 else a / b)
def y_pw : Nat → Nat → St → St
  | 0, _, t => t
  | n + 1, i, t => y_pw n (i + 1) (sL t 10 i (t.1 0 i))
def y_pt : Nat → Nat → St → St
  | 0, _, t => t
  | n + 1, i, t => y_pt n (i + 1) (sL t 11 i (t.1 9 i))
theorem y_pw_N : ∀ (n i : Nat) (t : St), (y_pw n i t).2 = t.2
  | 0, _, _ => rfl
  | n + 1, i, t => by rw [y_pw, y_pw_N n]; rfl
theorem y_pt_N : ∀ (n i : Nat) (t : St), (y_pt n i t).2 = t.2
  | 0, _, _ => rfl
  | n + 1, i, t => by rw [y_pt, y_pt_N n]; rfl
def y_pre (t : St) : St := y_pt (t.2.2.2 2) 0 (y_pw (t.2.2.2 1) 0 t)
theorem y_pre_2 (t : St) : (y_pre t).2 = t.2 := by rw [y_pre, y_pt_N, y_pw_N]
theorem y_pre_6 (t : St) : N6p (y_pre t) t := nsix (by rw [y_pre_2])
def y_c (b : Int32) (x y z : Int64) : Int64 := if b = 0 then 1 else if b = 1 then x else if b = 2 then y else z
def y_sw (b : Int32) (L : Nat → Nat → Int64) : Nat → Nat → Int64 → Int64
  | 0, _, a => a
  | n + 1, i, a => y_sw b L n (i + 1) (a + L 10 i * y_c b (L 1 i) (L 2 i) (L 3 i))
def y_st (b : Int32) (L : Nat → Nat → Int64) : Nat → Nat → Int64 → Int64
  | 0, _, a => a
  | n + 1, i, a => y_st b L n (i + 1) (a + L 11 i * y_c b (L 6 i) (L 7 i) (L 8 i))
def y_sum (b : Int32) (L : Nat → Nat → Int64) (nw nt : Nat) : Int64 := y_st b L nt 0 (y_sw b L nw 0 0)
abbrev y_S (b : Int32) (t : St) : Int64 := y_sum b t.1 (t.2.2.2 1) (t.2.2.2 2)
def y_fr (L : Nat → Nat → Int64) : Nat → Nat → Int64 → Int64
  | 0, _, a => a
  | n + 1, i, a => y_fr L n (i + 1) (a + (if L 11 i ≤ 0 then 0 else if L 4 i ≤ L 11 i then 0 else L 5 i))
abbrev y_R (t : St) : Int64 := y_fr t.1 (t.2.2.2 2) 0 0
def y_abv (L : Nat → Nat → Int64) (d : Int64) : Nat → Nat → Nat
  | 0, i => i
  | n + 1, i => if d ≤ L 13 i then i else y_abv L d n (i + 1)
abbrev y_k (t : St) (d : Int64) : Nat := y_abv t.1 d (t.2.2.2 3) 0
abbrev y_one (t : St) (d : Int64) : Nat := if y_k t d = 0 then 0 else y_k t d - 1
abbrev y_two (t : St) (d : Int64) : Nat := if y_k t d = t.2.2.2 3 then t.2.2.2 3 - 1 else y_k t d
def y_tD (t : St) (d : Int64) : Int64 := if t.2.2.2 3 = 0 then 1 else if y_one t d = y_two t d then 1 else t.1 13 (y_two t d) - t.1 13 (y_one t d)
def y_tU (c : Nat) (t : St) (d : Int64) : Int64 := if t.2.2.2 3 = 0 then 0 else if y_one t d = y_two t d then t.1 c (y_one t d) else t.1 c (y_one t d) * (t.1 13 (y_two t d) - t.1 13 (y_one t d)) + (t.1 c (y_two t d) - t.1 c (y_one t d)) * (d - t.1 13 (y_one t d))
abbrev y_div (w : Int32) : Prop := ¬ w = 0 ∧ ¬ w = 6
def y_UA (w : Int32) (t : St) : Int64 := if w = 4 then y_S 3 t + y_R t else if w = 5 then y_tU 14 t (y_S 0 t) * y_S 0 t - (y_S 3 t + y_R t) * y_tD t (y_S 0 t) else if w = 6 then y_tU 15 t (y_S 0 t) else if w = 7 then 2 * y_S 1 t - y_S 0 t * (t.2.2.1 0 + t.2.2.1 1) else y_S 0 t
def y_DA (w : Int32) (t : St) : Int64 := if w = 4 then y_S 0 t else if w = 5 then y_tD t (y_S 0 t) * y_S 0 t else if w = 6 then y_tD t (y_S 0 t) else if w = 7 then 2 * y_S 0 t else 1
def y_U0 (w : Int32) (t : St) : Int64 := if w < 1 then y_UA w t else if 3 < w then y_UA w t else y_S w t
def y_D0 (w : Int32) (t : St) : Int64 := if w < 1 then y_DA w t else if 3 < w then y_DA w t else y_S 0 t
def y_U (w : Int32) (t : St) : Int64 := if 0 ≤ y_D0 w t then y_U0 w t else -y_U0 w t
def y_D (w : Int32) (t : St) : Int64 := if 0 ≤ y_D0 w t then y_D0 w t else -y_D0 w t
def y_rk (w : Int32) (t : St) : St := sF (sF t 2 (y_U w t)) 3 (y_D w t)
def y_aw (x : Int64) (L : Nat → Nat → Int64) : Nat → Nat → Int64 → Int64
  | 0, _, a => a
  | n + 1, i, a => y_aw x L n (i + 1) (a + (if x ≤ L 1 i then 0 else L 10 i))
def y_at (x : Int64) (L : Nat → Nat → Int64) : Nat → Nat → Int64 → Int64
  | 0, _, a => a
  | n + 1, i, a => y_at x L n (i + 1) (a + (if x ≤ L 6 i then 0 else L 11 i))
def y_mw (x : Int64) (L : Nat → Nat → Int64) : Nat → Nat → Int64 → Int64
  | 0, _, a => a
  | n + 1, i, a => y_mw x L n (i + 1) (a + (if x ≤ L 1 i then 0 else L 10 i * (x - L 1 i)))
def y_mt (x : Int64) (L : Nat → Nat → Int64) : Nat → Nat → Int64 → Int64
  | 0, _, a => a
  | n + 1, i, a => y_mt x L n (i + 1) (a + (if x ≤ L 6 i then 0 else L 11 i * (x - L 6 i)))
abbrev y_kg (x : Int64) (t : St) : Int64 := y_at x t.1 (t.2.2.2 2) 0 (y_aw x t.1 (t.2.2.2 1) 0 0)
abbrev y_tn (x : Int64) (t : St) : Int64 := y_mt x t.1 (t.2.2.2 2) 0 (y_mw x t.1 (t.2.2.2 1) 0 0)
def y_shear (x : Int64) (t : St) : Int64 := y_fl (y_kg x t * (t.2.2.1 1 - t.2.2.1 0) - y_S 0 t * (if t.2.2.1 0 ≤ x then (if x ≤ t.2.2.1 1 then x - t.2.2.1 0 else t.2.2.1 1 - t.2.2.1 0) else 0)) (t.2.2.1 1 - t.2.2.1 0)
def y_bend (x : Int64) (t : St) : Int64 := if x ≤ t.2.2.1 0 then y_tn x t else if x ≤ t.2.2.1 1 then y_fl (2 * y_tn x t * (t.2.2.1 1 - t.2.2.1 0) - y_S 0 t * (x - t.2.2.1 0) * (x - t.2.2.1 0)) (2 * (t.2.2.1 1 - t.2.2.1 0)) else y_fl (2 * y_tn x t - y_S 0 t * (2 * x - t.2.2.1 0 - t.2.2.1 1)) 2

