def th_4 : List Cond := [.isRef (.static Bundle.tN "UNASSIGNED_STACK" Bundle.steD), .isRef (.static Bundle.tN "SUPPRESSED_SENTINEL" Bundle.listD), .laysStatic Bundle.tN "UNASSIGNED_STACK" Bundle.steD, .laysStatic Bundle.tN "SUPPRESSED_SENTINEL" Bundle.listD]
section THB
variable {p : Program} {l : Launch} {e : Env} {R : Room} {s : State} {m : MethodId} {args : Array Value} {below : List Frame} {meth : Method} {c : Code} {H : Heap} {locs : List Loc} {cells slots : Nat} {Q : State → Prop} {cc : ByteArray} {pc : Nat} {ls : Array Slot} {rest : List Value}
theorem th_w4 {u U : State} {A A' : Array Value} (hvm : u.vm = U.vm) (hh : ∀ (q : Addr) (cell : Cell), u.heap[q]? = some cell → cell.vm.isStatics = true → U.heap[q]? = some cell) {w : Cond} (hw : w.onTables = true ∨ w ∈ th_4) (h : w.before A u = true) : w.before A' U = true := by
  rcases hw with hw | hw
  · exact va_tabs hw hvm h
  · simp only [th_4, List.mem_cons, List.not_mem_nil, or_false] at hw
    rcases hw with rfl | rfl | rfl | rfl
    · exact ws_ref hvm hh h
    · exact ws_ref hvm hh h
    · exact ws_lays hvm hh h
    · exact ws_lays hvm hh h
theorem th_same {T U : State} {k n : Nat} (X : Stand p l e R s m args below meth c T locs cells slots) (h : (s_reb s T).sameButNew U [] k n) : s.sameButNew U locs (cells + k) (slots + n) := by
  obtain ⟨e1, z⟩ := h
  have e2 := X.same.1
  have h2 : (T.setVm s.vm).sameButNew U [] k n := by
    refine ⟨?_, z⟩
    have e3 : (T.setVm s.vm).setFrames U.frames = ({ s.setFrames U.frames with heap := T.heap, slotsUsed := T.slotsUsed } : State) := by
      rw [e2]
      show ({ (s.setFrames _).setFrames U.frames with heap := T.heap, slotsUsed := T.slotsUsed } : State) = _
      rw [State.setFrames_setFrames]
    rw [e3]
    exact e1
  have h3 := X.same.trans h2
  rw [List.append_nil] at h3
  exact h3
theorem th_end (hexec : p.tables.exec = Jvm.exec) (hb : c.code = cc) (htr : e.platform.stackTraces = false) {own cls : String} {names : List String} {ic : Nat} (hown : s.vm.findClass own = some m.cls) (hcls : Bundle.fit cls = true) (hnames : ∀ n ∈ names, Bundle.fit n = true)
    (hwd : ∀ w ∈ Bundle.ownAtoms own ic cls names, w.before args s = true) {a : Addr} {cX : ClassId} {kX : Class} (hfX : s.vm.findClass cls = some cX) (hkX : s.vm.classes[cX]? = some kX) (hcell : H[a]? = some (freshCell cX kX)) (hnew : s.heap.size ≤ a)
    {msg : Value} (hmsg : msg.isRef = true) (hsize : ls.size = c.maxLocals) (d6 : decode cc pc = .ok (.invokespecial ic, 3)) (d9 : decode cc (pc + 3) = .ok (.athrow, 1)) (hout : ∀ x ∈ c.exceptionTable.toList, covers x (pc + 3) = false)
    (hRf : names.length + 3 < R.frames) (hRl : ((Value.ref a :: rest).map fun v => v.category).sum + (13 * (names.length + 1) + 42) ≤ R.locals) (hlocks : meth.locks = false)
    (hq : ∀ (U : State) (ce : Cell), U.status = .running → Ended U below (.threw a) → s.WarmedH U.vm → s.sameButNew ({ U with vm := s.vm } : State) [] cells slots → U.heap[a]? = some ce → ce.vm = .none → s.vm.findClass cls = some ce.cls → Q U) :
    W p l e R s m args below meth c H [] cells slots Q (F0 m pc ls (msg :: .ref a :: .ref a :: rest)) := by
  intro T hT X
  subst hb
  obtain ⟨U, h1, h2, h3, h4, h5, ce, h6, h7⟩ := X.ctorThrowS hexec htr hown hcls hnames hwd (fun x hx => nomatch hx) hfX hkX (by rw [hT]; exact hcell) hnew hmsg (g := F0 m pc ls (msg :: .ref a :: .ref a :: rest)) rfl hsize rfl rfl rfl d6 d9 hout hRf (by
    show 2 * 0 + _ + _ ≤ _
    rw [Nat.mul_zero, Nat.zero_add]; exact hRl) hlocks
  exact ⟨U, h1, hq U ce h2 h3 h4 h5 h6 h7.vm h7.cls⟩
theorem th_row (hexec : p.tables.exec = Jvm.exec) (hb : c.code = cc) (hl : l.stackTraces = false) {own cls text : String} {names : List String} {ik is ic sa : Nat} (hown : s.vm.findClass own = some m.cls) (hcls : Bundle.fit cls = true) (hnames : ∀ n ∈ names, Bundle.fit n = true)
    (hk : (Cond.classLink own ik cls).before args s = true) (hini : (Cond.initialized cls).before args s = true) (hstr : vk_R own is text sa s) (hwd : ∀ w ∈ Bundle.ownAtoms own ic cls names, w.before args s = true) (hot : ∀ w ∈ Bundle.ownAtoms own ic cls names, w.onTables = true ∨ w ∈ th_4)
    (hh : ∀ (q : Addr) (cell : Cell), s.heap[q]? = some cell → cell.vm.isStatics = true → H[q]? = some cell) (hsize : ls.size = c.maxLocals)
    (d0 : decode cc pc = .ok (.new ik, 3)) (d3 : decode cc (pc + 3) = .ok (.dup, 1)) (d4 : decode cc (pc + 4) = .ok (.ldc is, 2)) (d6 : decode cc (pc + 6) = .ok (.invokespecial ic, 3)) (d9 : decode cc (pc + 9) = .ok (.athrow, 1)) (hout : ∀ x ∈ c.exceptionTable.toList, covers x (pc + 9) = false)
    (hRf : names.length + 3 < R.frames) (hRl : (rest.map fun v => v.category).sum + (13 * (names.length + 1) + 43) ≤ R.locals) (hRc : cells + 1 ≤ R.cells) (hRs : slots + 6 ≤ R.slots) (hlocks : meth.locks = false)
    (hq : ∀ (U : State) (a : Addr) (ce : Cell), U.status = .running → Ended U below (.threw a) → s.WarmedH U.vm → H.size ≤ U.heap.size → (∀ q : Nat, q < H.size → U.heap[q]? = H[q]?) → U.heap[a]? = some ce → ce.vm = .none → s.vm.findClass cls = some ce.cls → s.sameButNew ({ U with vm := s.vm } : State) locs (cells + 1) (slots + 6) → Q U) :
    W p l e R s m args below meth c H locs cells slots Q (F0 m pc ls rest) := by
  intro T hT X
  have htr : e.platform.stackTraces = false := (show e.platform.stackTraces = l.stackTraces by rw [X.admits.platform]).trans hl
  have Y := st_reb X (R' := { frames := R.frames, locals := R.locals, cells := 1, slots := 6 }) (Nat.le_refl _) (Nat.le_refl _) hRc hRs
  have hins : (Cond.instantiable cls 6).before args s = true := hwd _ (by simp [Bundle.ownAtoms])
  have key : W p l e { frames := R.frames, locals := R.locals, cells := 1, slots := 6 } (s_reb s T) m args below meth c T.heap [] 0 0 Q (F0 m pc ls rest) := by
    refine W.newc (s := s_reb s T) hexec hb (own := own) (C := cls) (n := 6) hown (va_tabs (u := s) (U := s_reb s T) (A := args) rfl rfl hk) (va_tabs (u := s) (U := s_reb s T) (A := args) rfl rfl hins) (va_tabs (u := s) (U := s_reb s T) (A := args) rfl rfl hini) rfl d0 (Nat.le_refl _) (Nat.le_refl _) (fun cC kC f1 f2 f3 f4 => ?_)
    refine W.eq (g2 := F0 m (pc + 3) ls (.ref T.heap.size :: rest)) rfl ?_
    refine lv_dup hexec hb d3 rfl ?_
    refine va_ldcS (s := s_reb s T) hexec hb hown (vk_R.same (u := s) rfl hstr) d4 ?_
    refine th_end (s := s_reb s T) (cls := cls) (names := names) (own := own) hexec hb htr hown hcls hnames (fun w hw => th_w4 (u := s) (U := s_reb s T) (A := args) (A' := args) rfl (fun q cell g1 g2 => by show T.heap[q]? = _; rw [hT]; exact hh q cell g1 g2) (hot w hw) (hwd w hw)) (a := T.heap.size) (cX := cC) (kX := kC) f1 f2 (by simp) (Nat.le_refl _) rfl hsize d6 d9 hout hRf ?_ hlocks ?_
    · show (1 + (rest.map fun v => v.category).sum) + _ ≤ R.locals
      omega
    · intro U ce g1 g2 g3 g4 g5 g6 g7
      refine hq U T.heap.size ce g1 g2 g3 ?_ ?_ g5 g6 g7 (th_same X g4)
      · rw [← hT]; exact g4.2.1
      · intro q hq9
        have hq8 : q < T.heap.size := by rw [hT]; exact hq9
        obtain ⟨c', w1, w2, w3, w4⟩ := g4.2.2.2.2.2 q _ (Array.getElem?_eq_getElem hq8)
        have w5 : U.heap[q]? = some c' := w1
        rw [w5, ← hT, Array.getElem?_eq_getElem hq8]
        congr 1
        rw [w2]
        have w6 : c'.slots = (T.heap[q]).slots := Array.ext_getElem? (fun i => w4 i (by simp))
        rw [w6]
  exact key T rfl Y
end THB
