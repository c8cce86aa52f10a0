abbrev N5q (a b : St) : Prop := a.2.2.2 1 = b.2.2.2 1 ∧ a.2.2.2 2 = b.2.2.2 2 ∧ a.2.2.2 3 = b.2.2.2 3 ∧ a.2.2.2 4 = b.2.2.2 4 ∧ a.2.2.2 5 = b.2.2.2 5
theorem n6to5 {a b : St} (h : N6p a b) : N5q a b := h.2
abbrev okW (a b c d : Int64) : Prop := x_in a (-100000) 100000 ∧ ¬ a = 0 ∧ x_pl b ∧ x_pl c ∧ x_pl d
abbrev okT (a b c d e : Int64) : Prop := x_in a 4 40000 ∧ a - a / 4 * 4 = 0 ∧ x_in b 0 1000000000 ∧ x_pl c ∧ x_pl d ∧ x_pl e
abbrev okL (w : Int32) (x a b : Int64) : Prop := ¬ w < 0 ∧ ¬ 9 < w ∧ ¬ b < a ∧ x_in a (-10000000000000) 10000000000000 ∧ x_in b (-10000000000000) 10000000000000 ∧ x_pl x
abbrev x_th (a : Int32) (n : Nat) : Prop := ¬ a < 0 ∧ ¬ nI n ≤ a
def yw (a b c d : Int64) (t : St) : St := sN (sL (sL (sL (sL (sN t 0 0) 0 (t.2.2.2 1) a) 1 (t.2.2.2 1) b) 2 (t.2.2.2 1) c) 3 (t.2.2.2 1) d) 1 (t.2.2.2 1 + 1)
def yt (a b c d e : Int64) (t : St) : St := sN (sL (sL (sL (sL (sL (sL (sN t 0 0) 4 (t.2.2.2 2) a) 5 (t.2.2.2 2) b) 6 (t.2.2.2 2) c) 7 (t.2.2.2 2) d) 8 (t.2.2.2 2) e) 9 (t.2.2.2 2) 0) 2 (t.2.2.2 2 + 1)
def yl (w : Int32) (x a b : Int64) (t : St) : St := sN (sL (sL (sL (sI (sN t 0 0) 0 (t.2.2.2 4) w) 16 (t.2.2.2 4) x) 17 (t.2.2.2 4) a) 18 (t.2.2.2 4) b) 4 (t.2.2.2 4 + 1)

