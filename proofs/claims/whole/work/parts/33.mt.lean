theorem xw_lays {u U : State} {C n d : String} (hvm : u.vm.Alike U.vm) (hh : ∀ (q : Addr) (cell : Cell), u.heap[q]? = some cell → cell.vm.isStatics = true → U.heap[q]? = some cell) (h : (Cond.laysStatic C n d).before #[] u = true) : (Cond.laysStatic C n d).before #[] U = true := by
  obtain ⟨c, k, i, f, a, cell, h1, h2, h3, h4, h5, h6, h7, h8, h9⟩ := Cond.laysStatic_spec h
  obtain ⟨k', hi', he⟩ := State.fieldFound?_setVm hvm h2
  have hi' := (ws_ff (u := u.setVm U.vm) (U := U) rfl C n d).trans hi'
  have g1 : U.vm.findClass C = some c := by rw [hvm.findClass]; exact h1
  have g4 : k'.statics = some a := by rw [he]; exact h4
  have g5 := hh a cell h5 h6
  have g9 : k'.staticTypes = k.staticTypes := by rw [he]
  simp [Cond.before, Cond.holds, Cond.value, g1, hi', h3, g4, g5, h6, h7, h8, g9, h9]
theorem xw_ref {u U : State} {C n d : String} (hvm : u.vm.Alike U.vm) (hh : ∀ (q : Addr) (cell : Cell), u.heap[q]? = some cell → cell.vm.isStatics = true → U.heap[q]? = some cell) (hl : (Cond.laysStatic C n d).before #[] u = true) (h : (Cond.isRef (.static C n d)).before #[] u = true) : (Cond.isRef (.static C n d)).before #[] U = true := by
  obtain ⟨c, k, i, f, a, cell, h1, h2, h3, h4, h5, h6, h7, h8, h9⟩ := Cond.laysStatic_spec hl
  obtain ⟨k', hi', he⟩ := State.fieldFound?_setVm hvm h2
  have hi' := (ws_ff (u := u.setVm U.vm) (U := U) rfl C n d).trans hi'
  have g4 : k'.statics = some a := by rw [he]; exact h4
  have g5 := hh a cell h5 h6
  cases hv : (Term.static C n d).eval #[] u none [] u with
  | none => simp [Cond.before, Cond.holds, Cond.value, hv] at h
  | some v =>
    obtain ⟨hst', a', cell', ha', hcell', h10, hslot⟩ := Term.static_spec h2 hv
    cases h4.symm.trans ha'
    cases h5.symm.trans hcell'
    have hU : (Term.static C n d).eval #[] U none [] U = some v := by
      simp [Term.eval, State.fieldNamed?, hi', h3, g4, g5, h6, hslot]
    simp only [Cond.before, Cond.holds, Cond.value, hv] at h
    simp only [Cond.before, Cond.holds, Cond.value, hU]
    exact h
theorem xw_tr {u U : State} {c : Cond} (hc : c.onTables = true) (h : c.before #[] (u.setVm U.vm) = true) : c.before #[] U = true := va_tabs hc (rfl : (u.setVm U.vm).vm = U.vm) h
theorem XQ.go {u U : State} (hW : u.WarmedH U.vm) (hh : ∀ (q : Addr) (cell : Cell), u.heap[q]? = some cell → cell.vm.isStatics = true → U.heap[q]? = some cell) (h : XQ u) : XQ U := by
  obtain ⟨h1, h2, h3, h4⟩ := h
  have hvm := hW.alike
  refine ⟨fun w hw => ?_, fun w hw => ?_, fun q hq => ?_, fun q hq => (h4 q hq).moved hvm⟩
  · have e := h1 w hw
    simp only [th_4, List.mem_cons, List.not_mem_nil, or_false] at hw
    rcases hw with rfl | rfl | rfl | rfl
    · exact xw_ref hvm hh (h1 _ (by simp [th_4])) e
    · exact xw_ref hvm hh (h1 _ (by simp [th_4])) e
    · exact xw_lays hvm hh e
    · exact xw_lays hvm hh e
  · have e := h2 w hw
    simp only [XW, List.mem_cons, List.not_mem_nil, or_false] at hw
    rcases hw with rfl | rfl | rfl | rfl | rfl | rfl | rfl <;> refine xw_tr (u := u) rfl ?_ <;> first | (rw [Cond.declares_setVm hvm]; exact e) | (rw [Cond.castable_setVm hvm]; exact e)
  · obtain ⟨sa, hsa⟩ := h3 q hq
    exact ⟨sa, hsa.warm hW⟩

/-- a method that throws -/
def MT (l : Launch) (y : MethodName) (ws : List Cond) (rm : Room) (Pc : Array Value → State → Prop) (E : String) (B : State → Prop) (A : Nat → Prop) : Prop :=
  MetFree l y (headSpec ws rm) Pc (fun _ _ _ _ _ => True) (fun _ st o t => ∃ (x : Addr) (ce : Cell) (L : List Loc), o = .threw x ∧ t.heap[x]? = some ce ∧ ce.vm = .none ∧ st.vm.findClass E = some ce.cls ∧ B t ∧ va_F A st t ∧ st.WarmedH t.vm ∧ st.sameButNew ({ t with vm := st.vm } : State) L 1 6 ∧ ∀ q ∈ L, A q.base)
def MQT (below : List Frame) (s : State) (E : String) (B : State → Prop) (A : Nat → Prop) : State → Prop := fun t =>
  ∃ (x : Addr) (ce : Cell) (L : List Loc), t.status = .running ∧ Ended t below (.threw x) ∧ t.heap[x]? = some ce ∧ ce.vm = .none ∧ s.vm.findClass E = some ce.cls ∧ B t ∧ va_F A s t ∧ s.WarmedH t.vm ∧ s.sameButNew ({ t with vm := s.vm } : State) L 1 6 ∧ ∀ q ∈ L, A q.base
theorem MT.ofW {l : Launch} {y : MethodName} {ws ws' : List Cond} {rm : Room} {Pc : Array Value → State → Prop} {E : String} {B : State → Prop} {A : Nat → Prop} {cc : ByteArray} {maxL : Nat} {ret : Option FieldType}
    (hy : plainName y.cls = true) (hw : ws = Cond.code y cc maxL ret :: ws')
    (body : ∀ p e s m args below meth c s₁, BodyLoose p l y (headSpec ws rm) cc maxL ret e s m args below meth c s₁ → c.maxLocals = maxL → Pc args s →
      W p l e (headSpec ws rm).room s m args below meth c s.heap [] 0 0 (MQT below s E B A) (entryFrame m args maxL)) : MT l y ws rm Pc E B A := by
  refine MetFree.of_bodyS (code := cc) (maxLocals := maxL) (ret := ret) hy ?_ ?_
  · intro args s m h hn
    obtain ⟨meth, c, h1, h2, h3, h4, h5, h6, -, -⟩ := Cond.code_spec hn (atoms_spec (ws := ws) h _ (by rw [hw]; exact List.mem_cons_self))
    exact ⟨meth, c, h1, h2, h3, h4, h5, h6⟩
  · intro p e s m args below meth c s₁ B9 hml hP _
    have hh0 : s₁.heap = s.heap := by rw [B9.state]; rfl
    obtain ⟨t, a1, x, ce, L, b1, b2, b3⟩ := body p e s m args below meth c s₁ B9 hml hP s₁ hh0 (Stand.of_body B9)
    exact ⟨t, .threw x, a1, b1, b2, x, ce, L, rfl, b3⟩
section MTA
variable {p : Program} {l : Launch} {e : Env} {R : Room} {s : State} {m : MethodId} {args : Array Value} {below : List Frame} {meth : Method} {c : Code} {H : Heap} {locs : List Loc} {cells slots : Nat} {Q : State → Prop} {cc : ByteArray} {pc : Nat} {ls : Array Slot} {rest : List Value}
theorem va_at.notS {D : va_G} {cl : List vw_C} {q : Nat × va_E} {H : Heap} {cell : Cell} (h : va_at D cl q H) (hc : H[q.1]? = some cell) : cell.vm.isStatics = false := by
  obtain ⟨a, e⟩ := q
  cases e with
  | inl x =>
    have h1 : H[a]? = some (vp_cell x.1 x.2) := h
    have h2 : H[a]? = some cell := hc
    cases Option.some.inj (h1.symm.trans h2)
    obtain ⟨x1, n9, f9⟩ := x
    rcases f9 with f9 | f9 | f9 | f9 | f9 <;> rfl
  | inr o =>
    obtain ⟨r, h1, h2⟩ := h
    obtain ⟨c9, g1, -, g3, -⟩ := h2
    have h2 : H[a]? = some cell := hc
    cases Option.some.inj (g1.symm.trans h2)
    rw [g3]; rfl
/-- the end of a method that throws: new X(text), thrown; over the world w -/
theorem th_fin {D : va_G} {cl : List vw_C} {w w0 : va_W} {A : Nat → Prop} {E text : String} {ik is ic : Nat} (hexec : p.tables.exec = Jvm.exec) (hb : c.code = cc) (hl : l.stackTraces = false) (hown : s.vm.findClass "StabilitySums" = some m.cls) (hE : Bundle.fit E = true)
    (hts : ∀ w ∈ UW, w.before args s = true) (hX : XQ s) (hk : Cond.classLink "StabilitySums" ik E ∈ UW) (hini : Cond.initialized E ∈ UW) (hstr : (is, text) ∈ XS)
    (ho : ∀ w ∈ Bundle.ownAtoms "StabilitySums" ic E th_N, w.onTables = true ∨ w ∈ th_4) (hu : ∀ w ∈ Bundle.ownAtoms "StabilitySums" ic E th_N, w ∈ UW ∨ w ∈ th_4 ∨ w ∈ XW)
    (hP0 : va_P D cl w0 s.heap) (hAe : ∀ q, A q → va_A w0 s.heap.size q) (hP : va_P D cl w H) (hD : va_D A w) (hS : va_S A s.heap H locs) (hA : ∀ q, s.heap.size ≤ q → A q) (hsize : ls.size = c.maxLocals)
    (d0 : decode cc pc = .ok (.new ik, 3)) (d3 : decode cc (pc + 3) = .ok (.dup, 1)) (d4 : decode cc (pc + 4) = .ok (.ldc is, 2)) (d6 : decode cc (pc + 6) = .ok (.invokespecial ic, 3)) (d9 : decode cc (pc + 9) = .ok (.athrow, 1)) (hout : c.exceptionTable.toList = [])
    (hRf : 5 < R.frames) (hRl : (rest.map fun v => v.category).sum + 82 ≤ R.locals) (hRc : 1 ≤ R.cells) (hRs : 6 ≤ R.slots) (hlocks : meth.locks = false) :
    W p l e R s m args below meth c H locs 0 0 (MQT below s E (fun t => va_P D cl w t.heap ∧ va_D A w) A) (F0 m pc ls rest) := by
  have hst : ∀ (q : Addr) (cell : Cell), s.heap[q]? = some cell → cell.vm.isStatics = true → H[q]? = some cell := by
    intro q cell h1 h2
    have hlt : q < s.heap.size := (Array.getElem?_eq_some_iff.mp h1).1
    rw [hS.2.1 q hlt (fun hq => ?_)]
    · exact h1
    · rcases hAe q hq with ⟨k, e9, h⟩ | h
      · rw [(hP0 k _ h).notS h1] at h2; cases h2
      · exact absurd hlt (Nat.not_lt.mpr h)
  obtain ⟨x4, xw, xs, -⟩ := hX
  obtain ⟨sa, hsa⟩ := xs _ hstr
  refine th_row (names := th_N) (text := text) (sa := sa) hexec hb hl hown hE (by decide) (hts _ hk) (hts _ hini) hsa (fun w9 hw9 => ?_) ho hst hsize d0 d3 d4 d6 d9 (fun x hx => by rw [hout] at hx; cases hx) hRf hRl (by omega) (by omega) hlocks ?_
  · rcases hu w9 hw9 with h | h | h
    · exact hts _ h
    · exact th_w4 (u := s) (U := s) (A := #[]) rfl (fun _ _ h _ => h) (Or.inr h) (x4 _ h)
    · rcases ho w9 hw9 with h9 | h9
      · exact va_tabs h9 rfl (xw _ h)
      · exact th_w4 (u := s) (U := s) (A := #[]) rfl (fun _ _ h _ => h) (Or.inr h9) (x4 _ h9)
  · intro U a ce g1 g2 g3 g4 g5 g6 g7 g8 g9
    refine ⟨a, ce, locs, g1, g2, g6, g7, g8, ⟨fun k q hq => (hP k q hq).kept (g5 _ (hP k q hq).lt), hD⟩, ⟨Nat.le_trans hS.1 g4, fun q h1 h2 => (g5 q (Nat.lt_of_lt_of_le h1 hS.1)).trans (hS.2.1 q h1 h2)⟩, g3, by simpa using g9, hS.2.2⟩
end MTA

section MTB
variable {p : Program} {l : Launch} {e : Env} {R : Room} {s : State} {m : MethodId} {args : Array Value} {below : List Frame} {meth : Method} {c : Code} {H : Heap} {locs : List Loc} {cells slots : Nat} {Q : State → Prop}
variable {cc : ByteArray} {pc : Nat} {ls : Array Slot} {rest st0 : List Value} {D : va_G} {cl : List vw_C} {A : Nat → Prop} {tys : List (ClassId × FieldType)} {w w1 : va_W} {H0 : Heap}
variable {y : MethodName} {bytes : ByteArray} {maxL nL n index : Nat} {ret : Option FieldType} {rm : Room} {own C E : String} {b : Nat} {As : List Value}
/-- a method's start where it may throw -/
def Px (D : va_G) (cl : List vw_C) (tys : List (ClassId × FieldType)) (w : va_W) (sz : Nat) (U : State) : Prop := Pw D cl tys w sz U ∧ XQ U
theorem Px.blind {D : va_G} {cl : List vw_C} {tys : List (ClassId × FieldType)} {w : va_W} {sz : Nat} {av : List Value} : FrameBlind (va_Pc av (Px D cl tys w sz)) := fun a U g mk q => by
  obtain ⟨q0, q1, q2⟩ := q
  obtain ⟨e0, e1⟩ := Pw.blind a U g mk ⟨q0, q1⟩
  exact ⟨q0, e1, XQ.go (u := U) (State.WarmedH.refl U) (fun _ _ h _ => h) q2⟩
theorem tc_V (S0 : CallFix p m c cc nL s args UW own) (hM : ∀ sz, MT l y (.code y bytes maxL ret :: UW) rm (va_Pc (.ref b :: As) (Px D cl tys w sz)) E (fun t => va_P D cl w1 t.heap ∧ va_D (va_A w sz) w1) (va_A w sz)) (cw : CallW R s args own C index y bytes maxL ret (.code y bytes maxL ret :: UW) rm 1 6 n)
    (hrecv : ∃ cellB : Cell, H[b]? = some cellB ∧ cellB.vm.isStatics = false ∧ s.vm.findClass C = some cellB.cls) (hn : As.length = n) (hsize : ls.size = nL) (hst : st0 = As.reverse ++ .ref b :: rest) (hW : (rest.map fun v => v.category).sum ≤ 8) (hdg : decode cc pc = .ok (.invokevirtual index, 3)) (hf : cells + 1 ≤ R.cells ∧ slots + 6 ≤ R.slots) (hK : va_K D cl tys s) (hN : NK s) (hX : XQ s) (hh : ∀ (q : Addr) (cell : Cell), s.heap[q]? = some cell → cell.vm.isStatics = true → H[q]? = some cell) (hP : va_P D cl w H) (hD : va_D (fun _ => True) w) (hS : va_S A H0 H locs) (hFc : ∀ q, va_A w H.size q → A q)
    (kk : ∀ (q : Addr) (ce : Cell) (H1 : Heap) (locs1 : List Loc), H1[q]? = some ce → ce.vm = .none → s.vm.findClass E = some ce.cls → va_P D cl w1 H1 → va_D (va_A w H.size) w1 → H.size ≤ H1.size → (∀ q : Nat, q < H.size → ¬ va_A w H.size q → H1[q]? = H[q]?) → va_S A H0 H1 locs1 → TW p l e R s m args below meth c H1 locs1 (cells + 1) (slots + 6) Q (F0 m pc ls rest) q) : W p l e R s m args below meth c H locs cells slots Q (F0 m pc ls st0) := by
  intro T hT X
  obtain ⟨⟨hrc, hrs, hfr, hlo, hws, hcw, hcode, hini, hy, hlen, hlink⟩, hinst, hsel⟩ := cw
  obtain ⟨hexec, hb, hml, hown, -⟩ := S0
  obtain ⟨cellB, hcell, hobj, hcls⟩ := hrecv
  obtain ⟨mk, methM, hnamed, hmethM, hstM, habM⟩ := Cond.instanceMethod_spec hinst
  obtain ⟨methM', cM, hmethM', hcY, -, hlY, -, -, -, hsigM⟩ := Cond.code_spec hnamed hcode
  cases hmethM.symm.trans hmethM'
  obtain ⟨c2, r2, m2, q1, q2, q3, q4, kP, hkP, hkPi⟩ := Cond.selects_spec hsel
  cases hcls.symm.trans q1
  cases (State.methodFound?_of_named hnamed hy).symm.trans q2
  cases hnamed.symm.trans q3
  have hselP : selectMethod e.platform s.vm cellB.cls mk = .method mk := by rw [Launch.admits_selectMethod X.admits]; exact q4
  obtain ⟨vm₁, X₁, hstep₁⟩ := X.invokevirtual hexec hown hlink hnamed hmethM hstM hkP hkPi hy (a := b) (cell := cellB) (by rw [hT]; exact hcell)
    (fun z h => by rw [h] at hobj; cases hobj) hselP hmethM habM hkP hkPi (g := F0 m pc ls st0) rfl (argsL := As) (rest := rest) (hn.trans (hlen _ hsigM)) hst (by rw [hb]; exact hdg)
  have hW1 := X₁.warmed
  have hnm := X₁.named hnamed
  obtain ⟨kY, hkY, -⟩ := className_of_methodNamed hnm
  have hiniU : (Cond.initialized y.cls).before args (T.setVm vm₁) = true := word_at hW1 (Or.inl (by first | rfl | simp [Cond.onTables, Cond.keeps, Cond.steady])) hini
  have hinitY : kY.init = .initialized := Cond.initialized_spec (findClass_of_methodNamed hnm) hkY hiniU
  have hcodeU : (Cond.code y bytes maxL ret).before (Value.ref b :: As).toArray (T.setVm vm₁) = true := hws _ hcw _ _ hW1
  obtain ⟨methY, cY, hmY, hcY, -, hlY, -, -, -, -⟩ := Cond.code_spec hnm hcodeU
  have h : At (T.setVm vm₁) m c below := X₁.here
  have hdg' : decode c.code pc = .ok (.invokevirtual index, 3) := by rw [hb]; exact hdg
  have happ : (headSpec (.code y bytes maxL ret :: UW) rm).appliesLoose y e.platform ((T.setVm vm₁).calling (F0 m pc ls rest) mk (Value.ref b :: As).toArray) = true :=
    Spec.appliesLoose_calling (g := F0 m pc ls rest) h hdg' hnm hkY hinitY
      (X₁.room_calling (g := F0 m pc ls rest) (R' := (headSpec (.code y bytes maxL ret :: UW) rm).room) (hsize.trans hml.symm) hmY hcY hfr (by
        have hlo' : 8 + (maxL + 11) + rm.locals ≤ R.locals := hlo
        rw [hlY]
        show 2 * 0 + (List.map (fun v => v.category) rest).sum + (maxL + 11) + rm.locals ≤ R.locals
        omega) (by show cells + rm.cells ≤ _; rw [hrc]; exact hf.1) (by show slots + rm.slots ≤ _; rw [hrs]; exact hf.2)) (atoms_intro fun w hw => hws w hw _ _ hW1)
  obtain ⟨mid, hmid⟩ := h.above
  have hfr2 : ((T.setVm vm₁).setTop (F0 m pc ls rest)).frames = (.java (F0 m pc ls rest) :: mid) ++ below := by rw [State.frames_setTop' _ h.top, hmid]; rfl
  have hPx : va_Pc (.ref b :: As) (Px D cl tys w H.size) (Value.ref b :: As).toArray ((T.setVm vm₁).calling (F0 m pc ls rest) mk (Value.ref b :: As).toArray) :=
    Px.blind _ _ _ _ ⟨rfl, ⟨by show T.heap.size = _; rw [hT], by show va_P D cl w T.heap; rw [hT]; exact hP, va_K.moved hW1.alike hK, hD, NK.warm hW1 hN⟩, XQ.go hW1 (fun q cell g1 g2 => by show T.heap[q]? = _; rw [hT]; exact hh q cell g1 g2) hX⟩
  obtain ⟨o, s₂, hsteps, -, hend, x, ce, L, rfl, z1, z2, z3, ⟨z4, z5⟩, z6, z7, z8, z9⟩ := Steps.callFree (hM H.size) p X₁.admits X₁.cas X₁.clock (acts := []) hfr2 happ hPx trivial
  obtain ⟨g₀, hr⟩ := X₁.frames_eq
  have hfr3 : ((T.setVm vm₁).setTop (F0 m pc ls rest)).frames = .java (F0 m pc ls rest) :: below := by rw [State.frames_setTop' _ h.top, hr]; rfl
  rw [hfr3] at hend
  obtain ⟨T', X', hW', hsame, ht⟩ := X₁.outOfThrown (g := F0 m pc ls rest) rfl hend z7 z8
  have hhp : s₂.heap = T'.heap := by rw [ht]; exact Stand.throwing_heap T' _ x
  have hq9 : ∀ q : Nat, q < H0.size → ¬ A q → T'.heap[q]? = H0[q]? := by
    intro q g1 g2
    have g3 : q < H.size := Nat.lt_of_lt_of_le g1 hS.1
    rw [← hS.2.1 q g1 g2, ← hhp, ← hT]
    exact z6.2 q (by rw [← hT] at g3; exact g3) (fun g4 => g2 (hFc q g4))
  obtain ⟨t, a1, b1⟩ := kk x ce T'.heap (locs ++ L) (by rw [← hhp]; exact z1) z2 (by rw [← hW1.alike.findClass]; exact z3) (by rw [← hhp]; exact z4) z5 (by rw [← hhp]; have := z6.1; rw [← hT]; exact this)
    (fun q g1 g2 => by rw [← hhp, ← hT]; exact z6.2 q (by rw [← hT] at g1; exact g1) g2)
    ⟨Nat.le_trans hS.1 (by rw [← hhp]; have := z6.1; rw [← hT]; exact this), hq9, fun l9 hl9 => (List.mem_append.mp hl9).elim (hS.2.2 l9) (fun h9 => hFc _ (z9 l9 h9))⟩ T' rfl X'
  refine ⟨t, hstep₁ _ fun acts => ?_, b1⟩
  rw [doInvoke_state]
  rw [ht] at hsteps
  exact hsteps.trans a1
end MTB
