/-! A method that throws 'new X(text)': the state's own start moved to where it stands, then the library's ctorThrowS -/
section THA
variable {p : Program} {l : Launch} {e : Env} {R : Room} {s : State} {m : MethodId} {args : Array Value} {below : List Frame} {meth : Method} {c : Code} {H : Heap} {locs : List Loc} {cells slots : Nat} {Q : State → Prop} {T : State}
def s_reb (s T : State) : State := { s with heap := T.heap, slotsUsed := T.slotsUsed }
theorem st_reb (X : Stand p l e R s m args below meth c T locs cells slots) {R' : Room} (hf : R'.frames ≤ R.frames) (hl : R'.locals ≤ R.locals) (hc : cells + R'.cells ≤ R.cells) (hs : slots + R'.slots ≤ R.slots) :
    Stand p l e R' (s_reb s T) m args below meth c T [] 0 0 := by
  have hroom : (s_reb s T).hasRoom e.platform R' = true := by
    have h := X.room
    have h1 := X.cellsAbove (n := R'.cells) hc
    have h2 := X.slotsAbove (n := R'.slots) hs
    have h3 : (s_reb s T).slotsTrue = true := X.book
    have e1 : (s_reb s T).localsInUse = s.localsInUse := rfl
    have e2 : (s_reb s T).frames = s.frames := rfl
    have e3 : (s_reb s T).me = s.me := rfl
    have e4 : (s_reb s T).heap = T.heap := rfl
    have e5 : (s_reb s T).slotsUsed = T.slotsUsed := rfl
    simp only [State.hasRoom, Bool.and_eq_true, decide_eq_true_eq, e1, e2, e3, e4, e5] at h ⊢
    obtain ⟨⟨⟨⟨a1, a2, a3, a4, a5, a6⟩, -⟩, -⟩, -⟩ := h
    exact ⟨⟨⟨⟨by omega, by omega, by omega, by omega, by omega, a6⟩, h1⟩, h2⟩, h3⟩
  refine ⟨X.admits, X.cas, X.clock, X.frames, hroom, X.hears, X.method, X.code, X.here, X.tail, X.warmed, X.limits, X.bytes, ?_⟩
  refine ⟨X.same.1, Nat.le_refl _, Nat.le_refl _, ?_, ?_, fun a c h => ⟨c, h, rfl, rfl, fun _ _ => rfl⟩⟩
  · show T.slotsUsed = T.slotsUsed + ((T.heap.toList.drop T.heap.size).map (·.slots.size)).sum
    rw [← Array.length_toList, List.drop_length]; rfl
  · show ((T.heap.toList.drop T.heap.size).map (·.slots.size)).sum ≤ 0
    rw [← Array.length_toList, List.drop_length]; exact Nat.le_refl _
theorem ws_ff {u U : State} (hvm : u.vm = U.vm) (C n d : String) : U.fieldFound? C n d = u.fieldFound? C n d := by
  unfold State.fieldFound?; rw [hvm]
theorem ws_lays {u U : State} {A A' : Array Value} {C n d : String} (hvm : u.vm = U.vm) (hh : ∀ (q : Addr) (cell : Cell), u.heap[q]? = some cell → cell.vm.isStatics = true → U.heap[q]? = some cell) (h : (Cond.laysStatic C n d).before A u = true) : (Cond.laysStatic C n d).before A' U = true := by
  obtain ⟨c, k, i, f, a, cell, h1, h2, h3, h4, h5, h6, h7, h8, h9⟩ := Cond.laysStatic_spec h
  have g1 : U.vm.findClass C = some c := by rw [← hvm]; exact h1
  have g2 := (ws_ff hvm C n d).trans h2
  have g5 := hh a cell h5 h6
  simp [Cond.before, Cond.holds, Cond.value, g1, g2, h3, h4, g5, h6, h7, h8, h9]
theorem ws_ref {u U : State} {A A' : Array Value} {C n d : String} (hvm : u.vm = U.vm) (hh : ∀ (q : Addr) (cell : Cell), u.heap[q]? = some cell → cell.vm.isStatics = true → U.heap[q]? = some cell) (h : (Cond.isRef (.static C n d)).before A u = true) : (Cond.isRef (.static C n d)).before A' U = true := by
  cases hv : (Term.static C n d).eval A u none [] u with
  | none => simp [Cond.before, Cond.holds, Cond.value, hv] at h
  | some v =>
    have hU : (Term.static C n d).eval A' U none [] U = some v := by
      simp only [Term.eval, State.fieldNamed?, ws_ff hvm] at hv ⊢
      cases hf : u.fieldFound? C n d with
      | none => simp [hf] at hv
      | some q =>
        obtain ⟨c, k, i, f⟩ := q
        simp only [hf, Option.bind_eq_bind, Option.bind_some] at hv ⊢
        by_cases hst : (f.isStatic == true) = true
        · simp only [hst, if_true, Option.pure_def, Option.bind_some, Option.bind_eq_some_iff] at hv ⊢
          obtain ⟨a, ha, cell, hc, hv⟩ := hv
          by_cases hs : cell.vm.isStatics = true
          · exact ⟨a, ha, cell, hh a cell hc hs, hv⟩
          · simp [hs] at hv
        · simp [hst] at hv
    simp only [Cond.before, Cond.holds, Cond.value, hv] at h
    simp only [Cond.before, Cond.holds, Cond.value, hU]
    exact h
end THA
