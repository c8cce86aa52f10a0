theorem cl_eq {x : Int32} (h : ¬ x < 0) : x = nI x.toNatClampNeg := by
  obtain ⟨j, hj, rfl⟩ := nI_of h
  rw [nI_clamp hj]
theorem cl_lt {x : Int32} {n : Nat} (h : ¬ x < 0) (h2 : ¬ nI n ≤ x) (hn : n < 2 ^ 31) : x.toNatClampNeg < n := by
  obtain ⟨j, hj, rfl⟩ := nI_of h
  rw [nI_clamp hj]
  exact Nat.lt_of_not_le (fun z => h2 ((nI_leI hn hj).mpr z))
theorem nle0 {n : Nat} (h : n < 2 ^ 31) : nI n ≤ 0 ↔ n = 0 := ⟨fun z => by have := (nI_leI (a := n) (b := 0) h (by decide)).mp z; omega, fun z => by rw [z]; decide⟩
def EqB (a b : St) : Prop := (∀ k, k ≠ 10 → k ≠ 11 → k ≠ 12 → a.1 k = b.1 k) ∧ a.2.1 = b.2.1 ∧ a.2.2.1 0 = b.2.2.1 0 ∧ a.2.2.1 1 = b.2.2.1 1 ∧ a.2.2.2 = b.2.2.2
theorem EqB.rf (a : St) : EqB a a := ⟨fun _ _ _ _ => rfl, rfl, rfl, rfl, rfl⟩
theorem EqB.tr {a b c : St} (h : EqB a b) (g : EqB b c) : EqB a c := ⟨fun k h1 h2 h3 => (h.1 k h1 h2 h3).trans (g.1 k h1 h2 h3), h.2.1.trans g.2.1, h.2.2.1.trans g.2.2.1, h.2.2.2.1.trans g.2.2.2.1, h.2.2.2.2.trans g.2.2.2.2⟩
theorem EqB.sL {t : St} (k j : Nat) (v : Int64) (h : k = 10 ∨ k = 11 ∨ k = 12) : EqB (sL t k j v) t := ⟨fun q h1 h2 h3 => if_neg (by omega), rfl, rfl, rfl, rfl⟩
theorem EqB.sF {t : St} (k : Nat) (v : Int64) (h : ¬ 0 = k) (h1 : ¬ 1 = k) : EqB (sF t k v) t := ⟨fun _ _ _ _ => rfl, rfl, if_neg h, if_neg h1, rfl⟩
theorem EqB.six {a b : St} (h : EqB a b) : N6p a b := nsix h.2.2.2.2
theorem EqB.pw : ∀ (n i : Nat) (t : St), EqB (y_pw n i t) t
  | 0, _, t => EqB.rf t
  | n + 1, i, t => (EqB.pw n (i + 1) _).tr (EqB.sL 10 i _ (Or.inl rfl))
theorem EqB.pt : ∀ (n i : Nat) (t : St), EqB (y_pt n i t) t
  | 0, _, t => EqB.rf t
  | n + 1, i, t => (EqB.pt n (i + 1) _).tr (EqB.sL 11 i _ (Or.inr (Or.inl rfl)))
theorem EqB.pre (t : St) : EqB (y_pre t) t := (EqB.pt _ _ _).tr (EqB.pw _ _ _)
theorem EqB.bt (k : Nat) (t : St) : EqB (y_bt k t) t := by
  unfold y_bt; split
  · split
    · exact EqB.rf t
    · exact (EqB.sF 3 _ (by decide) (by decide)).tr (EqB.sF 2 _ (by decide) (by decide))
  · exact EqB.rf t
theorem EqB.lb : ∀ (n i : Nat) (t : St), EqB (y_lb n i t).2 t
  | 0, _, t => EqB.rf t
  | n + 1, i, t => by rw [y_lb]; split; exact EqB.bt i t; exact (EqB.lb n (i + 1) _).tr (EqB.bt i t)
def y_stp (k : Nat) (t : St) : St := if t.2.1 1 k = 0 then sL t 10 (t.2.1 2 k).toNatClampNeg (t.1 10 (t.2.1 2 k).toNatClampNeg + t.1 19 k) else sL t 11 (t.2.1 2 k).toNatClampNeg (t.1 19 k)
theorem EqB.stp (k : Nat) (t : St) : EqB (y_stp k t) t := by unfold y_stp; split; exact EqB.sL 10 _ _ (Or.inl rfl); exact EqB.sL 11 _ _ (Or.inr (Or.inl rfl))
def y_bb : Nat → Nat → St → St
  | 0, _, t => t
  | n + 1, k, t => y_bb n (k + 1) (y_stp k t)
theorem EqB.bb : ∀ (n i : Nat) (t : St), EqB (y_bb n i t) t
  | 0, _, t => EqB.rf t
  | n + 1, i, t => (EqB.bb n (i + 1) _).tr (EqB.stp i t)
def y_bi (i : Nat) (t : St) : St := y_bb (i + 1) 0 (y_pre t)
theorem EqB.bi (i : Nat) (t : St) : EqB (y_bi i t) t := (EqB.bb _ _ _).tr (EqB.pre t)
def EM (t : St) : Prop := ∀ i, i < t.2.2.2 5 → t.2.1 2 i = nI (t.2.1 2 i).toNatClampNeg ∧ (t.2.1 1 i = 0 → (t.2.1 2 i).toNatClampNeg < 40) ∧ (¬ t.2.1 1 i = 0 → (t.2.1 2 i).toNatClampNeg < 4)
theorem EM.same {a b : St} (h : EM b) (e : EqB a b) : EM a := by unfold EM at *; rw [e.2.1, e.2.2.2.2]; exact h
noncomputable def y_br : Nat → Nat → St → Int32 × St
  | 0, _, t => (-1, t)
  | n + 1, i, t => if y_bn (y_bi i t) = 0 then y_br n (i + 1) (y_bs (y_bi i t)) else (nI i, y_bs (y_bi i t))
noncomputable def y_broken (t : St) : Int32 × St := y_br (t.2.2.2 5) 0 (sN t 0 0)
def y_in : Nat → Nat → Nat → Int64 → St → Nat × Int64 × St
  | 0, _, b, w, t => (b, w, t)
  | n + 1, r, b, w, t => y_in n (r / 5) (if b = 0 then 0 else if n < t.2.2.2 2 then 1 else if r % 5 = 0 then 1 else 0)
      (if n < t.2.2.2 2 then w + y_ab (t.1 4 n / 4 * (nI (r % 5)).toInt64 - t.1 9 n) else w) (if n < t.2.2.2 2 then sL t 11 n (t.1 4 n / 4 * (nI (r % 5)).toInt64) else t)
theorem EqB.in : ∀ (n r b : Nat) (w : Int64) (t : St), EqB (y_in n r b w t).2.2 t
  | 0, _, _, _, t => EqB.rf t
  | n + 1, r, b, w, t => by
    rw [y_in]; refine (EqB.in n _ _ _ _).tr ?_
    split
    · exact EqB.sL 11 _ _ (Or.inr (Or.inl rfl))
    · exact EqB.rf t
abbrev y_ic (c : Nat) (t : St) : Nat × Int64 × St := y_in 4 c 1 0 (y_pre t)
def y_kb : Nat → Nat → St → St
  | 0, _, t => t
  | n + 1, i, t => y_kb n (i + 1) (sL t 12 i (t.1 11 i))
theorem EqB.kb : ∀ (n i : Nat) (t : St), EqB (y_kb n i t) t
  | 0, _, t => EqB.rf t
  | n + 1, i, t => (EqB.kb n (i + 1) _).tr (EqB.sL 12 i _ (Or.inr (Or.inr rfl)))
noncomputable def y_pp : Nat → Nat → Int64 → St → Int64 × St
  | 0, _, b, t => (b, t)
  | n + 1, c, b, t =>
    if (y_ic c t).1 = 0 then y_pp n (c + 1) b (y_ic c t).2.2
    else if b < 0 ∨ ¬ b ≤ (y_ic c t).2.1 then
      (if y_bn (y_ic c t).2.2 = 0 then y_pp n (c + 1) (y_ic c t).2.1 (y_kb ((y_bs (y_ic c t).2.2).2.2.2 2) 0 (y_bs (y_ic c t).2.2)) else y_pp n (c + 1) b (y_bs (y_ic c t).2.2))
    else y_pp n (c + 1) b (y_ic c t).2.2
noncomputable abbrev y_pump (t : St) : Int64 × St := y_pp 625 0 (-1) t
theorem EqB.pp : ∀ (n c : Nat) (b : Int64) (t : St), EqB (y_pp n c b t).2 t
  | 0, _, _, t => EqB.rf t
  | n + 1, c, b, t => by
    have h1 : EqB (y_ic c t).2.2 t := (EqB.in _ _ _ _ _).tr (EqB.pre t)
    rw [y_pp]; split
    · exact (EqB.pp n _ _ _).tr h1
    · split
      · split
        · exact (EqB.pp n _ _ _).tr ((EqB.kb _ _ _).tr ((EqB.lb _ _ _).tr h1))
        · exact (EqB.pp n _ _ _).tr ((EqB.lb _ _ _).tr h1)
      · exact (EqB.pp n _ _ _).tr h1

