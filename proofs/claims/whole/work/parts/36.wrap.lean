/-! Worlds side by side: a call that has a part of the world -/
theorem ww_P {D : va_G} {cl : List vw_C} {w v : va_W} {H : Heap} : va_P D cl (w ++ v) H ↔ va_P D cl w H ∧ va_P D cl v H := by
  constructor
  · intro h
    refine ⟨fun k q hk => h k q ?_, fun k q hk => h (w.length + k) q ?_⟩
    · rw [List.getElem?_append_left (List.getElem?_eq_some_iff.mp hk).1]; exact hk
    · rw [List.getElem?_append_right (Nat.le_add_right _ _), Nat.add_sub_cancel_left]; exact hk
  · intro ⟨h1, h2⟩ k q hk
    by_cases hlt : k < w.length
    · rw [List.getElem?_append_left hlt] at hk; exact h1 k q hk
    · rw [List.getElem?_append_right (by omega)] at hk; exact h2 _ q hk
def ww_J (w v : va_W) : Prop := ∀ (i j : Nat) (p q : Nat × va_E), w[i]? = some p → v[j]? = some q → p.1 ≠ q.1
theorem ww_D {A : Nat → Prop} {w v : va_W} : va_D A (w ++ v) ↔ va_D A w ∧ va_D A v ∧ ww_J w v := by
  constructor
  · intro h
    have l : ∀ {k : Nat} {q : Nat × va_E}, w[k]? = some q → (w ++ v)[k]? = some q := fun hk => by rw [List.getElem?_append_left (List.getElem?_eq_some_iff.mp hk).1]; exact hk
    have r : ∀ {k : Nat} {q : Nat × va_E}, v[k]? = some q → (w ++ v)[w.length + k]? = some q := fun hk => by rw [List.getElem?_append_right (Nat.le_add_right _ _), Nat.add_sub_cancel_left]; exact hk
    refine ⟨⟨fun i j p q hi hj e => h.1 i j p q (l hi) (l hj) e, fun k q hk => h.2 k q (l hk)⟩, ⟨fun i j p q hi hj e => by have := h.1 _ _ p q (r hi) (r hj) e; omega, fun k q hk => h.2 _ q (r hk)⟩, fun i j p q hi hj e => ?_⟩
    have h1 := h.1 _ _ p q (l hi) (r hj) e
    have h2 := (List.getElem?_eq_some_iff.mp hi).1
    omega
  · intro ⟨h1, h2, h3⟩
    refine va_D.app h1 h2 (fun i j x y hx hy hxy => h3 i j x y hx hy hxy)
/-- the part w of the world moved to w1, the rest v stayed -/
theorem ww_go {A : Nat → Prop} {D : va_G} {cl : List vw_C} {w w1 v : va_W} {H H1 : Heap} (hPv : va_P D cl v H) (hDv : va_D A v) (hJ : ww_J w v) (hk : ∀ q : Nat, q < H.size → ¬ va_A w H.size q → H1[q]? = H[q]?) (hD1 : va_D (va_A w H.size) w1) : va_P D cl v H1 ∧ ww_J w1 v := by
  have apart : ∀ (k : Nat) (q : Nat × va_E), v[k]? = some q → q.1 < H.size ∧ ¬ va_A w H.size q.1 := by
    intro k q hq
    refine ⟨(hPv k q hq).lt, fun h => ?_⟩
    rcases h with ⟨i, e, h⟩ | h
    · exact hJ i k _ q h hq rfl
    · exact absurd (hPv k q hq).lt (Nat.not_lt.mpr h)
  refine ⟨fun k q hq => (hPv k q hq).kept (hk _ (apart k q hq).1 (apart k q hq).2), fun i j p q hi hj e => ?_⟩
  have := hD1.2 i p hi
  rw [e] at this
  exact (apart j q hj).2 this
theorem ww_J.symm {w v : va_W} (h : ww_J w v) : ww_J v w := fun i j p q hi hj e => h j i q p hj hi e.symm
/-- the world before and after: the part in front moved -/
theorem ww_f {A : Nat → Prop} {D : va_G} {cl : List vw_C} {w w1 v : va_W} {H H1 : Heap} (hP : va_P D cl (w ++ v) H) (hD : va_D A (w ++ v)) (hF : ∀ q, va_A w H.size q → A q) (hk : ∀ q : Nat, q < H.size → ¬ va_A w H.size q → H1[q]? = H[q]?) (hP1 : va_P D cl w1 H1) (hD1 : va_D (va_A w H.size) w1) : va_P D cl (w1 ++ v) H1 ∧ va_D A (w1 ++ v) := by
  obtain ⟨h1, h2, h3⟩ := ww_D.mp hD
  obtain ⟨g1, g2⟩ := ww_go (ww_P.mp hP).2 h2 h3 hk hD1
  exact ⟨ww_P.mpr ⟨hP1, g1⟩, ww_D.mpr ⟨hD1.weaken (fun _ _ _ h => hF _ h), h2, g2⟩⟩
theorem ww_b {A : Nat → Prop} {D : va_G} {cl : List vw_C} {w w1 v : va_W} {H H1 : Heap} (hP : va_P D cl (v ++ w) H) (hD : va_D A (v ++ w)) (hF : ∀ q, va_A w H.size q → A q) (hk : ∀ q : Nat, q < H.size → ¬ va_A w H.size q → H1[q]? = H[q]?) (hP1 : va_P D cl w1 H1) (hD1 : va_D (va_A w H.size) w1) : va_P D cl (v ++ w1) H1 ∧ va_D A (v ++ w1) := by
  obtain ⟨h2, h1, h3⟩ := ww_D.mp hD
  obtain ⟨g1, g2⟩ := ww_go (ww_P.mp hP).1 h2 h3.symm hk hD1
  exact ⟨ww_P.mpr ⟨g1, hP1⟩, ww_D.mpr ⟨h2, hD1.weaken (fun _ _ _ h => hF _ h), g2.symm⟩⟩
section WWB
variable {p : Program} {l : Launch} {e : Env} {R : Room} {s : State} {m : MethodId} {args : Array Value} {below : List Frame} {meth : Method} {c : Code} {H : Heap} {locs : List Loc} {cells slots : Nat} {Q : State → Prop}
variable {cc : ByteArray} {pc : Nat} {ls : Array Slot} {rest st0 : List Value} {D : va_G} {cl : List vw_C} {A : Nat → Prop} {tys : List (ClassId × FieldType)} {w v : va_W} {H0 : Heap}
variable {y : MethodName} {bytes : ByteArray} {maxL nL n index mc ms : Nat} {ret : Option FieldType} {rm : Room} {own C : String} {b : Nat} {As : List Value}
/-- a call whose world is the part in front -/
theorem cf_Vi {S : Type} {post : Int32 → S → Prop} {w1 : S → va_W} (S0 : CallFix p m c cc nL s args UW own) (hM : ∀ sz, Met l y (.code y bytes maxL ret :: UW) rm (va_Pc (.ref b :: As) (Pw D cl tys w sz)) (va_Qi post (Bw D cl tys w1 (va_A w sz)) (va_A w sz)) 0 0 (va_A w sz)) (cw : CallW R s args own C index y bytes maxL ret (.code y bytes maxL ret :: UW) rm 0 0 n)
    (hrecv : ∃ cellB : Cell, H[b]? = some cellB ∧ cellB.vm.isStatics = false ∧ s.vm.findClass C = some cellB.cls) (hn : As.length = n) (hsize : ls.size = nL) (hst : st0 = As.reverse ++ .ref b :: rest) (hW : (rest.map fun v => v.category).sum ≤ 8) (hdg : decode cc pc = .ok (.invokevirtual index, 3)) (hf : cells ≤ R.cells ∧ slots ≤ R.slots) (hK : va_K D cl tys s) (hN : NK s) (hP : va_P D cl (w ++ v) H) (hD : va_D A (w ++ v)) (hS : va_S A H0 H locs) (hA : ∀ q, H0.size ≤ q → A q)
    (kk : ∀ (r : Int32) (u : S) (H1 : Heap) (locs1 : List Loc), post r u → va_P D cl (w1 u ++ v) H1 → va_D A (w1 u ++ v) → va_S A H0 H1 locs1 → W p l e R s m args below meth c H1 locs1 cells slots Q (F0 m (pc + 3) ls (.int r :: rest))) : W p l e R s m args below meth c H locs cells slots Q (F0 m pc ls st0) := by
  have hFc := cl_free (ww_D.mp hD).1 hS hA
  refine va_calli (va_runV S0 (hM H.size) cw ⟨Pw.blind, hrecv, fun U hU hW => ⟨rfl, by rw [hU], by rw [hU]; exact (ww_P.mp hP).1, va_K.moved hW.alike hK, (ww_D.mp hD).1.weaken (fun _ _ _ _ => trivial), NK.warm hW hN⟩⟩ rfl hn hsize hst (lv_room hW) hdg hf) hS (fun q _ h => hFc q h) hFc (fun r u t H1 locs1 ht hvm hw hB hz hk hS1 => ?_)
  obtain ⟨hP1, hK1, hD1⟩ := hB
  rw [ht] at hP1
  obtain ⟨g1, g2⟩ := ww_f hP hD hFc hk hP1 hD1
  exact kk r u H1 locs1 hw g1 g2 hS1
theorem cf_Vl {S : Type} {post : Int64 → S → Prop} {w1 : S → va_W} (S0 : CallFix p m c cc nL s args UW own) (hM : ∀ sz, Met l y (.code y bytes maxL ret :: UW) rm (va_Pc (.ref b :: As) (Pw D cl tys w sz)) (va_Ql post (Bw D cl tys w1 (va_A w sz)) (va_A w sz)) 0 0 (va_A w sz)) (cw : CallW R s args own C index y bytes maxL ret (.code y bytes maxL ret :: UW) rm 0 0 n)
    (hrecv : ∃ cellB : Cell, H[b]? = some cellB ∧ cellB.vm.isStatics = false ∧ s.vm.findClass C = some cellB.cls) (hn : As.length = n) (hsize : ls.size = nL) (hst : st0 = As.reverse ++ .ref b :: rest) (hW : (rest.map fun v => v.category).sum ≤ 8) (hdg : decode cc pc = .ok (.invokevirtual index, 3)) (hf : cells ≤ R.cells ∧ slots ≤ R.slots) (hK : va_K D cl tys s) (hN : NK s) (hP : va_P D cl (w ++ v) H) (hD : va_D A (w ++ v)) (hS : va_S A H0 H locs) (hA : ∀ q, H0.size ≤ q → A q)
    (kk : ∀ (r : Int64) (u : S) (H1 : Heap) (locs1 : List Loc), post r u → va_P D cl (w1 u ++ v) H1 → va_D A (w1 u ++ v) → va_S A H0 H1 locs1 → W p l e R s m args below meth c H1 locs1 cells slots Q (F0 m (pc + 3) ls (.long r :: rest))) : W p l e R s m args below meth c H locs cells slots Q (F0 m pc ls st0) := by
  have hFc := cl_free (ww_D.mp hD).1 hS hA
  refine va_calll (va_runV S0 (hM H.size) cw ⟨Pw.blind, hrecv, fun U hU hW => ⟨rfl, by rw [hU], by rw [hU]; exact (ww_P.mp hP).1, va_K.moved hW.alike hK, (ww_D.mp hD).1.weaken (fun _ _ _ _ => trivial), NK.warm hW hN⟩⟩ rfl hn hsize hst (lv_room hW) hdg hf) hS (fun q _ h => hFc q h) hFc (fun r u t H1 locs1 ht hvm hw hB hz hk hS1 => ?_)
  obtain ⟨hP1, hK1, hD1⟩ := hB
  rw [ht] at hP1
  obtain ⟨g1, g2⟩ := ww_f hP hD hFc hk hP1 hD1
  exact kk r u H1 locs1 hw g1 g2 hS1
/-- a call whose world is the part behind -/
theorem cb_Vi {S : Type} {post : Int32 → S → Prop} {w1 : S → va_W} (S0 : CallFix p m c cc nL s args UW own) (hM : ∀ sz, Met l y (.code y bytes maxL ret :: UW) rm (va_Pc (.ref b :: As) (Pw D cl tys w sz)) (va_Qi post (Bw D cl tys w1 (va_A w sz)) (va_A w sz)) 0 0 (va_A w sz)) (cw : CallW R s args own C index y bytes maxL ret (.code y bytes maxL ret :: UW) rm 0 0 n)
    (hrecv : ∃ cellB : Cell, H[b]? = some cellB ∧ cellB.vm.isStatics = false ∧ s.vm.findClass C = some cellB.cls) (hn : As.length = n) (hsize : ls.size = nL) (hst : st0 = As.reverse ++ .ref b :: rest) (hW : (rest.map fun v => v.category).sum ≤ 8) (hdg : decode cc pc = .ok (.invokevirtual index, 3)) (hf : cells ≤ R.cells ∧ slots ≤ R.slots) (hK : va_K D cl tys s) (hN : NK s) (hP : va_P D cl (v ++ w) H) (hD : va_D A (v ++ w)) (hS : va_S A H0 H locs) (hA : ∀ q, H0.size ≤ q → A q)
    (kk : ∀ (r : Int32) (u : S) (H1 : Heap) (locs1 : List Loc), post r u → va_P D cl (v ++ w1 u) H1 → va_D A (v ++ w1 u) → va_S A H0 H1 locs1 → W p l e R s m args below meth c H1 locs1 cells slots Q (F0 m (pc + 3) ls (.int r :: rest))) : W p l e R s m args below meth c H locs cells slots Q (F0 m pc ls st0) := by
  have hFc := cl_free (ww_D.mp hD).2.1 hS hA
  refine va_calli (va_runV S0 (hM H.size) cw ⟨Pw.blind, hrecv, fun U hU hW => ⟨rfl, by rw [hU], by rw [hU]; exact (ww_P.mp hP).2, va_K.moved hW.alike hK, (ww_D.mp hD).2.1.weaken (fun _ _ _ _ => trivial), NK.warm hW hN⟩⟩ rfl hn hsize hst (lv_room hW) hdg hf) hS (fun q _ h => hFc q h) hFc (fun r u t H1 locs1 ht hvm hw hB hz hk hS1 => ?_)
  obtain ⟨hP1, hK1, hD1⟩ := hB
  rw [ht] at hP1
  obtain ⟨g1, g2⟩ := ww_b hP hD hFc hk hP1 hD1
  exact kk r u H1 locs1 hw g1 g2 hS1
theorem cb_Vl {S : Type} {post : Int64 → S → Prop} {w1 : S → va_W} (S0 : CallFix p m c cc nL s args UW own) (hM : ∀ sz, Met l y (.code y bytes maxL ret :: UW) rm (va_Pc (.ref b :: As) (Pw D cl tys w sz)) (va_Ql post (Bw D cl tys w1 (va_A w sz)) (va_A w sz)) 0 0 (va_A w sz)) (cw : CallW R s args own C index y bytes maxL ret (.code y bytes maxL ret :: UW) rm 0 0 n)
    (hrecv : ∃ cellB : Cell, H[b]? = some cellB ∧ cellB.vm.isStatics = false ∧ s.vm.findClass C = some cellB.cls) (hn : As.length = n) (hsize : ls.size = nL) (hst : st0 = As.reverse ++ .ref b :: rest) (hW : (rest.map fun v => v.category).sum ≤ 8) (hdg : decode cc pc = .ok (.invokevirtual index, 3)) (hf : cells ≤ R.cells ∧ slots ≤ R.slots) (hK : va_K D cl tys s) (hN : NK s) (hP : va_P D cl (v ++ w) H) (hD : va_D A (v ++ w)) (hS : va_S A H0 H locs) (hA : ∀ q, H0.size ≤ q → A q)
    (kk : ∀ (r : Int64) (u : S) (H1 : Heap) (locs1 : List Loc), post r u → va_P D cl (v ++ w1 u) H1 → va_D A (v ++ w1 u) → va_S A H0 H1 locs1 → W p l e R s m args below meth c H1 locs1 cells slots Q (F0 m (pc + 3) ls (.long r :: rest))) : W p l e R s m args below meth c H locs cells slots Q (F0 m pc ls st0) := by
  have hFc := cl_free (ww_D.mp hD).2.1 hS hA
  refine va_calll (va_runV S0 (hM H.size) cw ⟨Pw.blind, hrecv, fun U hU hW => ⟨rfl, by rw [hU], by rw [hU]; exact (ww_P.mp hP).2, va_K.moved hW.alike hK, (ww_D.mp hD).2.1.weaken (fun _ _ _ _ => trivial), NK.warm hW hN⟩⟩ rfl hn hsize hst (lv_room hW) hdg hf) hS (fun q _ h => hFc q h) hFc (fun r u t H1 locs1 ht hvm hw hB hz hk hS1 => ?_)
  obtain ⟨hP1, hK1, hD1⟩ := hB
  rw [ht] at hP1
  obtain ⟨g1, g2⟩ := ww_b hP hD hFc hk hP1 hD1
  exact kk r u H1 locs1 hw g1 g2 hS1
/-- statics stay where only the world's own cells move -/
theorem ww_st {w0 : va_W} (hP0 : va_P D cl w0 s.heap) (hS : va_S (va_A w0 s.heap.size) s.heap H locs) : ∀ (q : Addr) (cell : Cell), s.heap[q]? = some cell → cell.vm.isStatics = true → H[q]? = some cell := by
  intro q cell h1 h2
  have hlt : q < s.heap.size := (Array.getElem?_eq_some_iff.mp h1).1
  rw [hS.2.1 q hlt (fun hq => ?_)]
  · exact h1
  · rcases hq with ⟨k, e9, h⟩ | h
    · rw [(hP0 k _ h).notS h1] at h2; cases h2
    · exact absurd hlt (Nat.not_lt.mpr h)
/-- a thrown thing caught, the table given by its four numbers a row -/
theorem ct_tab {E name : String} {ce : Cell} {q : Addr} {hh : List (Nat × Nat × Nat × Nat)} (hown : s.vm.findClass own = some m.cls) (htab : c.exceptionTable.toList.map (fun h => (h.startPc, h.endPc, h.handlerPc, h.catchType)) = hh) (pre : List (Nat × Nat × Nat × Nat)) (x : Nat × Nat × Nat × Nat) (suf : List (Nat × Nat × Nat × Nat)) (hsplit : hh = pre ++ x :: suf)
    (hp : ∀ z ∈ pre, z.2.2.2 ≠ 0 ∧ ∃ nm : String, (Cond.classLink own z.2.2.2 nm).before args s = true ∧ va_Nc E nm s) (hx : x.1 ≤ pc ∧ pc < x.2.1) (h0 : x.2.2.2 ≠ 0)
    (hlink : (Cond.classLink own x.2.2.2 name).before args s = true) (hcast : (Cond.castable E name).before args s = true) (hcell : H[q]? = some ce) (hv : ce.vm = .none) (hcl : s.vm.findClass E = some ce.cls)
    (kk : W p l e R s m args below meth c H locs cells slots Q (F0 m x.2.2.1 ls [.ref q])) : TW p l e R s m args below meth c H locs cells slots Q (F0 m pc ls rest) q := by
  rw [hsplit] at htab
  obtain ⟨l1, l2, e1, e2, e3⟩ := List.map_eq_append_iff.mp htab
  obtain ⟨x9, l3, e4, e5, e6⟩ := List.map_eq_cons_iff.mp e3
  subst e4
  have h1 : x9.catchType = x.2.2.2 := by rw [← e5]
  have h2 : x9.handlerPc = x.2.2.1 := by rw [← e5]
  have h3 : x9.startPc = x.1 := by rw [← e5]
  have h4 : x9.endPc = x.2.1 := by rw [← e5]
  refine ct_catch (ls := ls) (own := own) (E := E) (name := name) hown l1 x9 l3 e1 (fun z hz => Or.inr ?_) (by simp [covers, h3, h4, hx.1, hx.2]) (by rw [h1]; exact h0) (by rw [h1]; exact hlink) hcast hcell hv hcl (by rw [h2]; exact kk)
  have := hp (z.startPc, z.endPc, z.handlerPc, z.catchType) (by rw [← e2]; exact List.mem_map.mpr ⟨z, hz, rfl⟩)
  exact this
end WWB
