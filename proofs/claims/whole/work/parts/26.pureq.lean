abbrev okH (a b c : Int64) (t : St) : Prop := x_in a 1 5000000 ∧ x_pl b ∧ x_pl c ∧ (¬ t.2.2.2 3 = 0 → t.1 13 (t.2.2.2 3 - 1) < a)
def yh (a b c : Int64) (t : St) : St := sN (sL (sL (sL (sN t 0 0) 13 (t.2.2.2 3) a) 14 (t.2.2.2 3) b) 15 (t.2.2.2 3) c) 3 (t.2.2.2 3 + 1)
def yp (a b : Int32) (c : Int64) (t : St) : St := sN (sL (sI (sI (sN t 0 0) 1 (t.2.2.2 5) (vp_nar .boolean a)) 2 (t.2.2.2 5) b) 19 (t.2.2.2 5) c) 5 (t.2.2.2 5 + 1)
def y_cs (L : Nat → Nat → Int64) : Nat → Nat → Nat → Nat
  | 0, _, a => a
  | n + 1, i, a => y_cs L n (i + 1) (a + (if L 9 i ≤ 0 then 0 else if L 4 i ≤ L 9 i then 0 else 1))
def y_cnt (w : Int32) (t : St) : Int32 := if w = 0 then nI (t.2.2.2 1) else if w = 1 then nI (t.2.2.2 2) else if w = 2 then nI (t.2.2.2 3) else if w = 3 then nI (t.2.2.2 4) else if w = 4 then nI (t.2.2.2 5) else if w = 5 then nI (y_cs t.1 (t.2.2.2 2) 0 0) else -1
def y_pl3 {α : Type} (a b : Int32) (c : Int64) (t : St) (f1 f2 f3 s : α) : α := if b < 0 then f1 else if a = 0 then (if b < nI (t.2.2.2 1) then (if x_in c (-100000) 100000 then (if t.2.2.2 5 = 20 then f3 else s) else f2) else f1)
  else (if b < nI (t.2.2.2 2) then (if x_in c 0 (t.1 4 b.toNatClampNeg) then (if t.2.2.2 5 = 20 then f3 else s) else f2) else f1)
abbrev okV (a b : Int32) : Prop := ¬ a < 0 ∧ ¬ 7 < a ∧ ¬ b < 0 ∧ b ≤ 2
abbrev y_v0 (t : St) : St := sN (y_pre t) 0 0
abbrev y_g (a : Int32) (t : St) : Int64 := x_gcd ((y_D a (y_v0 t)).toInt.natAbs) (y_ab (y_U a (y_v0 t))) (y_D a (y_v0 t))
def y_vv (a b : Int32) (t : St) : Int64 := if b = 0 then y_fl (y_U a (y_v0 t)) (y_D a (y_v0 t)) else if b = 1 then y_U a (y_v0 t) / y_g a t else y_D a (y_v0 t) / y_g a t

