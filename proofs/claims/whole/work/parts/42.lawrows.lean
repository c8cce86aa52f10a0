/-! Rows of the law's own body -/
def LAW (p : Program) (l : Launch) (s : State) (m : MethodId) (c : Code) (b L : Nat) (xs : Nat → Int32) (dC : Nat → ClassId) (dI : Nat → Nat → Nat) (T : Nat → ClassId) : Prop :=
  p.tables.exec = Jvm.exec ∧ c.code = code ∧ c.maxLocals = 8 ∧ s.vm.findClass "StabilitySumsLaw" = some m.cls ∧ (∀ w ∈ UW, w.before #[Value.ref b] s = true) ∧ va_X b L xs s s.heap ∧ b < s.heap.size ∧ L ≤ 5632 ∧ va_K (dC, dI) CLS (TY T) s ∧ NK s ∧ XQ s ∧ l.stackTraces = false
abbrev AA (s : State) : Nat → Prop := fun q => s.heap.size ≤ q
abbrev lg (xs : Nat → Int32) (j : Nat) : Int64 := (xs j).toInt64 <<< ((32 : Int32).toInt64 &&& 63) ||| ((xs (j + 1)).toInt64 &&& 4294967295)
abbrev LV (b : Nat) (ad am : Nat → Nat) (o i : Nat) : List (Nat × Value) := [(4, .int (nI i)), (3, .ref o), (2, .ref (am 0)), (1, .ref (ad 0)), (0, .ref b)]
section LWR
variable {p : Program} {l : Launch} {e : Env} {R : Room} {s : State} {m : MethodId} {args : Array Value} {below : List Frame} {meth : Method} {c : Code} {H : Heap} {locs : List Loc} {cells slots : Nat} {Q : State → Prop}
variable {cc : ByteArray} {pc : Nat} {ls : Array Slot} {rest st0 : List Value} {D : va_G} {cl : List vw_C} {A : Nat → Prop} {tys : List (ClassId × FieldType)} {w v : va_W} {H0 : Heap} {b L : Nat} {xs : Nat → Int32}
theorem W.pcE {q : Nat} {st : List Value} (h : pc = q) (k : W p l e R s m args below meth c H locs cells slots Q (F0 m q ls st)) : W p l e R s m args below meth c H locs cells slots Q (F0 m pc ls st) := h ▸ k
/-- a number of the script -/
theorem ld_s (hexec : p.tables.exec = Jvm.exec) (hb : c.code = cc) (hX : va_X b L xs s s.heap) (hbl : b < s.heap.size) (hL : L ≤ 5632) (hS : va_S (AA s) s.heap H locs) {j : Nat} (hj : j < L) (hdg : decode cc pc = .ok (.iaload, 1))
    (kk : W p l e R s m args below meth c H locs cells slots Q (F0 m (pc + 1) ls (.int (xs j) :: rest))) : W p l e R s m args below meth c H locs cells slots Q (F0 m pc ls (.int (nI j) :: .ref b :: rest)) := by
  refine va_sld hexec hb hX hbl (fun h => absurd hbl (Nat.not_lt.mpr h)) hS (nI_in hj (by omega)) hdg ?_
  rw [nI_clamp (by omega)]
  exact kk
/-- a long of two numbers of the script -/
theorem ld_l (hexec : p.tables.exec = Jvm.exec) (hb : c.code = code) (hown : s.vm.findClass "StabilitySumsLaw" = some m.cls) (hk64 : (Cond.constantLong "StabilitySumsLaw" 64 4294967295).before args s = true) (hX : va_X b L xs s s.heap) (hbl : b < s.heap.size) (hL : L ≤ 5632) (hS : va_S (AA s) s.heap H locs) {lv : List (Nat × Value)} (hl : lv_has ls 8 lv) (k0 k4 : Nat) {i : Nat} (h0 : lv[k0]? = some (0, .ref b)) (h4 : lv[k4]? = some (4, .int (nI i))) {j n1 n2 : Nat} (hj : i + (j + 1) < L)
    (d0 : decode code pc = .ok (.aload_n 0, 1)) (d1 : decode code (pc + 1) = .ok (.iload 4, 2)) (c1 : ∀ (st : List Value), W p l e R s m args below meth c H locs cells slots Q (F0 m (pc + 3 + n1) ls (.int (nI j) :: st)) → W p l e R s m args below meth c H locs cells slots Q (F0 m (pc + 3) ls st))
    (d3 : decode code (pc + 3 + n1) = .ok (.iadd, 1)) (d4 : decode code (pc + 4 + n1) = .ok (.iaload, 1)) (d5 : decode code (pc + 5 + n1) = .ok (.i2l, 1)) (d6 : decode code (pc + 6 + n1) = .ok (.bipush 32, 2)) (d7 : decode code (pc + 8 + n1) = .ok (.lshl, 1))
    (d8 : decode code (pc + 9 + n1) = .ok (.aload_n 0, 1)) (d9 : decode code (pc + 10 + n1) = .ok (.iload 4, 2)) (c2 : ∀ (st : List Value), W p l e R s m args below meth c H locs cells slots Q (F0 m (pc + 12 + n1 + n2) ls (.int (nI (j + 1)) :: st)) → W p l e R s m args below meth c H locs cells slots Q (F0 m (pc + 12 + n1) ls st))
    (d11 : decode code (pc + 12 + n1 + n2) = .ok (.iadd, 1)) (d12 : decode code (pc + 13 + n1 + n2) = .ok (.iaload, 1)) (d13 : decode code (pc + 14 + n1 + n2) = .ok (.i2l, 1)) (d14 : decode code (pc + 15 + n1 + n2) = .ok (.ldc2_w 64, 3)) (d15 : decode code (pc + 18 + n1 + n2) = .ok (.land, 1)) (d16 : decode code (pc + 19 + n1 + n2) = .ok (.lor, 1))
    (kk : W p l e R s m args below meth c H locs cells slots Q (F0 m (pc + 20 + n1 + n2) ls (.long (lg xs (i + j)) :: rest))) : W p l e R s m args below meth c H locs cells slots Q (F0 m pc ls rest) := by
  have at0 := lv_at hl k0 h0
  have at4 := lv_at hl k4 h4
  refine lv_aload_n hexec hb d0 rfl at0 ?_
  refine lv_iload hexec hb d1 at4 ?_
  refine c1 _ ?_
  refine lv_iadd hexec hb d3 ?_
  refine lv_topi (fun v1 e1 => ?_)
  have e1 : v1 = nI (i + j) := e1.trans (nI_add i j)
  subst e1
  refine W.pcE (q := pc + 4 + n1) (by omega) ?_
  refine ld_s hexec hb hX hbl hL hS (by omega) d4 ?_
  refine W.pcE (q := pc + 5 + n1) (by omega) ?_
  refine lv_i2l (v := (xs (i + j)).toInt64) hexec hb d5 rfl ?_
  refine W.pcE (q := pc + 6 + n1) (by omega) ?_
  refine lv_bipush (v := 32) hexec hb d6 (by decide) ?_
  refine W.pcE (q := pc + 8 + n1) (by omega) ?_
  refine lv_lshl (v := (xs (i + j)).toInt64 <<< ((32 : Int32).toInt64 &&& 63)) hexec hb d7 rfl ?_
  refine W.pcE (q := pc + 9 + n1) (by omega) ?_
  refine lv_aload_n hexec hb d8 rfl at0 ?_
  refine W.pcE (q := pc + 10 + n1) (by omega) ?_
  refine lv_iload hexec hb d9 at4 ?_
  refine W.pcE (q := pc + 12 + n1) (by omega) ?_
  refine c2 _ ?_
  refine lv_iadd hexec hb d11 ?_
  refine lv_topi (fun v1 e1 => ?_)
  have e1 : v1 = nI (i + j + 1) := e1.trans (nI_add i (j + 1))
  subst e1
  refine W.pcE (q := pc + 13 + n1 + n2) (by omega) ?_
  refine ld_s hexec hb hX hbl hL hS (by omega) d12 ?_
  refine W.pcE (q := pc + 14 + n1 + n2) (by omega) ?_
  refine lv_i2l (v := (xs (i + j + 1)).toInt64) hexec hb d13 rfl ?_
  refine W.pcE (q := pc + 15 + n1 + n2) (by omega) ?_
  refine lv_ldc2 (v := 4294967295) hexec hb hown hk64 d14 ?_
  refine W.pcE (q := pc + 18 + n1 + n2) (by omega) ?_
  refine lv_land hexec hb d15 ?_
  refine W.pcE (q := pc + 19 + n1 + n2) (by omega) ?_
  refine lv_lor hexec hb d16 ?_
  refine W.pcE (q := pc + 20 + n1 + n2) (by omega) ?_
  exact kk
/-- an int of the script -/
theorem ld_i (hexec : p.tables.exec = Jvm.exec) (hb : c.code = code) (hX : va_X b L xs s s.heap) (hbl : b < s.heap.size) (hL : L ≤ 5632) (hS : va_S (AA s) s.heap H locs) {lv : List (Nat × Value)} (hl : lv_has ls 8 lv) (k0 k4 : Nat) {i : Nat} (h0 : lv[k0]? = some (0, .ref b)) (h4 : lv[k4]? = some (4, .int (nI i))) {j n1 : Nat} (hj : i + j < L)
    (d0 : decode code pc = .ok (.aload_n 0, 1)) (d1 : decode code (pc + 1) = .ok (.iload 4, 2)) (c1 : ∀ (st : List Value), W p l e R s m args below meth c H locs cells slots Q (F0 m (pc + 3 + n1) ls (.int (nI j) :: st)) → W p l e R s m args below meth c H locs cells slots Q (F0 m (pc + 3) ls st))
    (d3 : decode code (pc + 3 + n1) = .ok (.iadd, 1)) (d4 : decode code (pc + 4 + n1) = .ok (.iaload, 1))
    (kk : W p l e R s m args below meth c H locs cells slots Q (F0 m (pc + 5 + n1) ls (.int (xs (i + j)) :: rest))) : W p l e R s m args below meth c H locs cells slots Q (F0 m pc ls rest) := by
  have at0 := lv_at hl k0 h0
  have at4 := lv_at hl k4 h4
  refine lv_aload_n hexec hb d0 rfl at0 ?_
  refine lv_iload hexec hb d1 at4 ?_
  refine c1 _ ?_
  refine lv_iadd hexec hb d3 ?_
  refine lv_topi (fun v1 e1 => ?_)
  have e1 : v1 = nI (i + j) := e1.trans (nI_add i j)
  subst e1
  refine W.pcE (q := pc + 4 + n1) (by omega) ?_
  refine ld_s hexec hb hX hbl hL hS hj d4 ?_
  refine W.pcE (q := pc + 5 + n1) (by omega) ?_
  exact kk
variable {y : MethodName} {bytes : ByteArray} {maxL nL n index mc ms : Nat} {ret : Option FieldType} {rm : Room} {own : String} {As : List Value} {hh : List (Nat × Nat × Nat × Nat)}
/-- the law's call of one of its wrappers, whose world is the part in front -/
theorem cs_S {S : Type} {post : Int32 → S → Prop} {w1 : S → va_W} (hexec : p.tables.exec = Jvm.exec) (hb : c.code = cc) (hml : c.maxLocals = nL) (hown : s.vm.findClass own = some m.cls) (hts : ∀ w ∈ UW, w.before args s = true) (hM : ∀ sz, Met l y (.codeWith y bytes maxL ret hh :: UW) rm (va_Pc As (Px D cl tys w sz)) (va_Qi post (Bw D cl tys w1 (va_A w sz)) (va_A w sz)) mc ms (va_A w sz))
    (hrc : rm.cells = mc) (hrs : rm.slots = ms) (hR : rm.frames + 1 ≤ R.frames ∧ 8 + (maxL + 11) + rm.locals ≤ R.locals) (hcode : Cond.codeWith y bytes maxL ret hh ∈ UW) (hstat : Cond.static y ∈ UW) (hini : Cond.initialized y.cls ∈ UW) (hlink : Cond.methodLink own index y ∈ UW) (hd : y.cls ≠ "java/lang/invoke/MethodHandle" ∧ y.cls ≠ "java/lang/invoke/VarHandle" ∧ (parseMethodDescriptor y.desc).map (fun d => d.parameters.length) = some As.length)
    (hsize : ls.size = nL) (hst : st0 = As.reverse ++ rest) (hW : (rest.map fun v => v.category).sum ≤ 8) (hdg : decode cc pc = .ok (.invokestatic index, 3)) (hf : cells + mc ≤ R.cells ∧ slots + ms ≤ R.slots) (hK : va_K D cl tys s) (hN : NK s) (hX : XQ s) (hP : va_P D cl (w ++ v) H) (hD : va_D (AA s) (w ++ v)) (hS : va_S (AA s) s.heap H locs)
    (kk : ∀ (r : Int32) (u : S) (H1 : Heap) (locs1 : List Loc), post r u → va_P D cl (w1 u ++ v) H1 → va_D (AA s) (w1 u ++ v) → va_S (AA s) s.heap H1 locs1 → W p l e R s m args below meth c H1 locs1 (cells + mc) (slots + ms) Q (F0 m (pc + 3) ls (.int r :: rest))) : W p l e R s m args below meth c H locs cells slots Q (F0 m pc ls st0) := by
  have hFc := cl_free (ww_D.mp hD).1 hS (fun q h => h)
  have hws : ∀ w ∈ (Cond.codeWith y bytes maxL ret hh :: UW), ∀ (a' : Array Value) (U : State), s.WarmedH U.vm → w.before a' U = true := by
    intro w9 hw9 a' U hW9
    have hm : w9 ∈ UW := (List.mem_cons.mp hw9).elim (fun h => h ▸ hcode) (fun h => h)
    exact word_at hW9 (uw_good w9 hm) (hts w9 hm)
  have hstk : ∀ (q : Addr) (cell : Cell), s.heap[q]? = some cell → cell.vm.isStatics = true → H[q]? = some cell := fun q cell h1 _ => by
    have hlt : q < s.heap.size := (Array.getElem?_eq_some_iff.mp h1).1
    rw [hS.2.1 q hlt (fun h => absurd hlt (Nat.not_lt.mpr h))]; exact h1
  have hKb : Back l R p e below s args y 3 8 (PreOf R mc ms (va_Pc As (Px D cl tys w H.size))) (PostOf (va_Qi post (Bw D cl tys w1 (va_A w H.size)) (va_A w H.size)) mc ms (va_A w H.size)) :=
    va_backW (hh := hh) (bytes := bytes) (maxL := maxL) (ret := ret) (hM H.size) Px.blind hrc hrs hR.1 hR.2 hws List.mem_cons_self (fun a' U hW9 => word_at hW9 (uw_good _ hini) (hts _ hini))
  have hrun : va_Run p l e R s m args below meth c H locs cells slots mc ms (F0 m pc ls st0) rest (va_Qi post (Bw D cl tys w1 (va_A w H.size)) (va_A w H.size) As.toArray) (va_A w H.size) := by
    intro T hT X
    obtain ⟨mk, methM, cM, hnamed, hmethM, -, -, -, -, -, -, hsigM⟩ := Cond.codeWith_spec (hts _ hcode)
    have hstatic : methM.isStatic = true := Cond.static_spec hnamed hmethM (hts _ hstat)
    obtain ⟨kP, hkP, -⟩ := className_of_methodNamed hnamed
    have hinitP : kP.init = .initialized := Cond.initialized_spec (findClass_of_methodNamed hnamed) hkP (hts _ hini)
    have hlen : As.length = methM.sig.parameters.length := by
      have h2 := hd.2.2
      rw [hsigM] at h2
      exact (Option.some.inj h2).symm
    obtain ⟨vm₁, X₁, hstep₁⟩ := X.invokestatic hexec hown (hts _ hlink) hnamed hmethM hstatic hkP hinitP ⟨hd.1, hd.2.1⟩ (g := F0 m pc ls st0) rfl (argsL := As) (rest := rest) hlen hst (by rw [hb]; exact hdg)
    obtain ⟨v9, B9, X', hpost, hsteps⟩ := hKb m meth c ⟨T.setVm vm₁, locs, cells, slots⟩ { F0 m pc ls st0 with stack := rest } (.invokestatic index) mk As.toArray X₁ rfl (hsize.trans hml.symm) (by rw [hb]; exact hdg) (lv_room hW) (X₁.named hnamed)
      ⟨hf.1, hf.2, rfl, ⟨by show T.heap.size = _; rw [hT], by show va_P D cl w T.heap; rw [hT]; exact (ww_P.mp hP).1, va_K.moved X₁.warmed.alike hK, (ww_D.mp hD).1.weaken (fun _ _ _ _ => trivial), NK.warm X₁.warmed hN⟩, XQ.go X₁.warmed (fun q cell g1 g2 => by show T.heap[q]? = _; rw [hT]; exact hstk q cell g1 g2) hX⟩
    obtain ⟨U', l2, c2, s2⟩ := B9
    obtain ⟨g', mk', t, L9, e1, e2, hq, h1, hL9, h2, h3⟩ := hpost
    dsimp only [Pt.U, Pt.locs, Pt.cells, Pt.slots] at X' e1 e2 h1 h2 h3 hsteps
    subst h1; subst h2; subst h3
    exact ⟨v9, (T.setVm vm₁).calling g' mk' As.toArray, t, U', L9, hT, X', hL9, e1, e2, hq, fun target h => hstep₁ _ fun acts => by rw [doInvoke_state]; exact hsteps.trans h⟩
  refine va_calli hrun hS (fun q _ h => hFc q h) hFc (fun r u t H1 locs1 ht hvm hw hB hz hk hS1 => ?_)
  obtain ⟨hP1, hK1, hD1⟩ := hB
  rw [ht] at hP1
  obtain ⟨g1, g2⟩ := ww_f hP hD hFc hk hP1 hD1
  exact kk r u H1 locs1 hw g1 g2 hS1
end LWR
