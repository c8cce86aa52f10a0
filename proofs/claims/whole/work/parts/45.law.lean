def R_law : String := "StabilitySumsLaw"
def lw_P (b : Addr) (xs : List Int32) (args : Array Value) (s : State) : Prop := args = #[.ref b] ∧ s.IntsAt b xs ∧ xs.length ≤ 5632 ∧ (Jvm.Cond.and given_1 narrow_1).before args s = true
def lw_Q (_ : Array Value) (s : State) (o : Outcome) (t : State) : Prop := o = .returned (some (.int 1)) ∧ Framed s o t [] 1100 9103
def lw_Z (below : List Frame) (a : Array Value) (s : State) : State → Prop := fun t => ∃ o, t.status = .running ∧ Ended t below o ∧ lw_Q a s o t
/-- the law's own end, with 1 on the stack, nothing written that was there before, its room as the claim has it -/
theorem lw_ret {p : Program} {l : Launch} {e : Env} {s : State} {m : MethodId} {below : List Frame} {meth : Method} {c : Code} {b : Nat} (hx : p.tables.exec = Jvm.exec) (hb : c.code = code) (hr : meth.sig.returnType = ret) (hlocks : meth.locks = false) {pc : Nat} {H : Heap} {ls : Array Slot} (hdg : decode code pc = .ok (.ireturn, 1)) : W p l e room_1 s m #[Value.ref b] below meth c H [] 1100 9103 (lw_Z below #[Value.ref b] s) (F0 m pc ls [.int 1]) := by
  intro T hT X
  obtain ⟨fs, hret, hrun, hended, hW, hframe⟩ := X.leave (v := some (.int 1)) (hlocks := hlocks) (fun h => by rw [hr] at h; cases h)
  have hmeth' : T.vm.method? m = some meth := X.method'
  refine ⟨T.setFrames fs, ?_, .returned (some (.int 1)), hrun, hended, rfl, ⟨_, rfl⟩, hW, hframe⟩
  jvm_step X.here [X.here.top, hx, hb, hdg, hmeth', hr, ret, narrow_b1]
  (try refine ⟨rfl, ?_⟩); (try refine ⟨rfl, ?_⟩)
  first | (intro acts; rw [hret _ acts rfl rfl rfl]) | rw [hret _ _ rfl rfl rfl]
  exact Steps.refl _
/-- what holds at the law's entry: the machine, the code, the tables' words (any of lw_tbl by 'hts w (by decide +kernel)'), the script of L ints xs at the cell b, what the Statement gives of the start (any of its parts by flat_of_before) -/
def lw_At (p : Program) (s : State) (m : MethodId) (meth : Method) (c : Code) (b L : Nat) (xs : Nat → Int32) : Prop :=
  p.tables.exec = Jvm.exec ∧ c.code = code ∧ meth.sig.returnType = ret ∧ c.maxLocals = 8 ∧ s.vm.findClass R_law = some m.cls ∧ (∀ w ∈ lw_tbl, w.before #[Value.ref b] s = true) ∧ va_X b L xs s s.heap ∧ b < s.heap.size ∧ meth.locks = false ∧ (Jvm.Cond.and given_1 narrow_1).before #[Value.ref b] s = true
def PT (RR : St → St → Prop) : Prop := PT_base RR ∧ PT_weight RR ∧ PT_tank RR ∧ PT_filled RR ∧ PT_hydro RR ∧ PT_hull RR ∧ PT_value RR ∧ PT_shear RR ∧ PT_bending RR ∧ PT_limit RR ∧ PT_check RR ∧ PT_ballast RR ∧ PT_fill RR ∧ PT_plan RR ∧ PT_step RR ∧ PT_broken RR ∧ PT_count RR
theorem lw_gt {i L : Nat} (hi : i ≤ 6000) (hL : L ≤ 5632) : nI L - 11 < nI i ↔ L < i + 11 := by
  rw [Int32.lt_iff_toInt_lt, show (nI L - 11 : Int32) = nI L - nI 11 from rfl, pk_sub_toInt (by omega) (by omega), nI_toInt (by omega)]
  omega
set_option maxHeartbeats 4000000 in
set_option maxRecDepth 100000 in
theorem law_loop {p : Program} {l : Launch} {e : Env} {s : State} {m : MethodId} {below : List Frame} {meth : Method} {c : Code} {b L : Nat} {xs : Nat → Int32} {dC : Nat → ClassId} {dI : Nat → Nat → Nat} {T : Nat → ClassId} {RR : St → St → Prop} (hPT : PT RR) (C : LAW p l s m c b L xs dC dI T) (hr : meth.sig.returnType = ret) (hlocks : meth.locks = false) (ad am : Nat → Nat) (o : Nat) : ∀ (n k : Nat) (t u : St) (ob : Nat → Int64) (H : Heap) (locs : List Loc) (ls : Array Slot), L < 11 * (k + n) + 11 → k + n ≤ 512 → RR t u → va_P (dC, dI) CLS (wA ad T t o ob ++ wM am T u) H → va_D (AA s) (wA ad T t o ob ++ wM am T u) → va_S (AA s) s.heap H locs → lv_has ls 8 (LV b ad am o (11 * k)) → W p l e room_1 s m #[Value.ref b] below meth c H locs (58 + k) (803 + 6 * k) (lw_Z below #[Value.ref b] s) (F0 m 23 ls []) := by
  obtain ⟨hx, hb, hml, hown, hts, hX, hbl, hL, hK, hN, hXQ, hlt⟩ := id C
  obtain ⟨hB, h_weight, h_tank, h_filled, h_hydro, h_hull, h_value, h_shear, h_bending, h_limit, h_check, h_ballast, h_fill, h_plan, h_step, h_broken, h_count⟩ := hPT
  intro n
  have go : ∀ (k : Nat) (t u : St) (ob : Nat → Int64) (H : Heap) (locs : List Loc) (ls : Array Slot), k ≤ 512 → RR t u → va_P (dC, dI) CLS (wA ad T t o ob ++ wM am T u) H → va_D (AA s) (wA ad T t o ob ++ wM am T u) → va_S (AA s) s.heap H locs → lv_has ls 8 (LV b ad am o (11 * k)) → (11 * k + 11 ≤ L → W p l e room_1 s m #[Value.ref b] below meth c H locs (58 + k) (803 + 6 * k) (lw_Z below #[Value.ref b] s) (F0 m 33 ls [])) → W p l e room_1 s m #[Value.ref b] below meth c H locs (58 + k) (803 + 6 * k) (lw_Z below #[Value.ref b] s) (F0 m 23 ls []) := by
    intro k t u ob H locs ls hk hR hP hD hS hl kk
    refine lv_iload hx hb de_Y_23 (lv_at hl 0 rfl) ?_
    refine lv_aload_n hx hb de_Y_25 rfl (lv_at hl 4 rfl) ?_
    refine va_slen hx hb hX hbl (fun h => absurd hbl (Nat.not_lt.mpr h)) hS de_Y_26 ?_
    refine lv_bipush (v := 11) hx hb de_Y_27 (by decide) ?_
    refine lv_isub hx hb de_Y_29 ?_
    refine lv_icmp_gt (tgt := 1742) hx hb de_Y_30 (by decide) (fun c1 => ?_) (fun c1 => kk ?_)
    · refine lv_iconst (v := 1) hx hb de_Y_1742 (by decide) ?_
      refine va_forget (fun q h => hS.2.2 q h) ?_
      refine W.widen (k := 1100) (n := 9103) (by omega) (by omega) ?_
      exact lw_ret hx hb hr hlocks de_Y_1743
    · exact Nat.le_of_not_lt (fun h => c1 ((lw_gt (i := 11 * k) (by omega) hL).mpr h))
  induction n with
  | zero =>
    intro k t u ob H locs ls h1 h2 hR hP hD hS hl
    exact go k t u ob H locs ls h2 hR hP hD hS hl (fun h => absurd h1 (by omega))
  | succ n ih =>
    intro k t u ob H locs ls h1 h2 hR hP hD hS hl
    refine go k t u ob H locs ls (by omega) hR hP hD hS hl (fun hi => ?_)
    have kk : ∀ (t' u' : St) (ob' : Nat → Int64) (H : Heap) (locs : List Loc) (ls : Array Slot), RR t' u' → va_P (dC, dI) CLS (wA ad T t' o ob' ++ wM am T u') H → va_D (AA s) (wA ad T t' o ob' ++ wM am T u') → va_S (AA s) s.heap H locs → lv_has ls 8 (LV b ad am o (11 * k)) → W p l e room_1 s m #[Value.ref b] below meth c H locs (58 + k + 1) (803 + 6 * k + 6) (lw_Z below #[Value.ref b] s) (F0 m 1736 ls []) := by
      intro t' u' ob' H locs ls hR hP hD hS hl
      refine lv_iinc (v := nI (11 * (k + 1))) (lv' := LV b ad am o (11 * (k + 1))) hx hb de_Y_1736 hl (k := 0) rfl ((nI_add (11 * k) 11).trans (congrArg nI (by omega))) (by decide) rfl (fun ls hl => ?_)
      refine lv_goto (tgt := 23) hx hb de_Y_1739 (by decide) ?_
      exact ih (k + 1) t' u' ob' H locs ls (by omega) (by omega) hR hP hD hS hl
    have hc : 58 + k + 1 ≤ 1100 := by omega
    have hsl : 803 + 6 * k + 6 ≤ 9103 := by omega
    refine lv_aload_n hx hb de_Y_33 rfl (lv_at hl 4 rfl) ?_
    refine lv_iload hx hb de_Y_34 (lv_at hl 0 rfl) ?_
    refine ld_s hx hb hX hbl hL hS (by omega) de_Y_36 ?_
    refine lv_bipush (v := 15) hx hb de_Y_37 (by decide) ?_
    refine lv_iand hx hb de_Y_39 ?_
    obtain ⟨j, hj, ej⟩ := pk_andE (xs (11 * k)) (m := 15) 4 (by decide)
    rw [ej]
    have hj : j < 16 := hj
    rcases (show j = 0 ∨ j = 1 ∨ j = 2 ∨ j = 3 ∨ j = 4 ∨ j = 5 ∨ j = 6 ∨ j = 7 ∨ j = 8 ∨ j = 9 ∨ j = 10 ∨ j = 11 ∨ j = 12 ∨ j = 13 ∨ j = 14 ∨ j = 15 by omega) with rfl | rfl | rfl | rfl | rfl | rfl | rfl | rfl | rfl | rfl | rfl | rfl | rfl | rfl | rfl | rfl
    · exact lv_tableIn (tgt := 120) hx hb de_Y_40 (by decide) (by decide) rfl (by decide) (lc_weight hB h_weight C hi hR hc hsl hP hD hS hl kk)
    · exact lv_tableIn (tgt := 346) hx hb de_Y_40 (by decide) (by decide) rfl (by decide) (lc_tank hB h_tank C hi hR hc hsl hP hD hS hl kk)
    · exact lv_tableIn (tgt := 620) hx hb de_Y_40 (by decide) (by decide) rfl (by decide) (lc_filled hB h_filled C hi hR hc hsl hP hD hS hl kk)
    · exact lv_tableIn (tgt := 720) hx hb de_Y_40 (by decide) (by decide) rfl (by decide) (lc_hydro hB h_hydro C hi hR hc hsl hP hD hS hl kk)
    · exact lv_tableIn (tgt := 898) hx hb de_Y_40 (by decide) (by decide) rfl (by decide) (lc_hull hB h_hull C hi hR hc hsl hP hD hS hl kk)
    · exact lv_tableIn (tgt := 999) hx hb de_Y_40 (by decide) (by decide) rfl (by decide) (lc_value hB h_value C hi hR hc hsl hP hD hS hl kk)
    · exact lv_tableIn (tgt := 1066) hx hb de_Y_40 (by decide) (by decide) rfl (by decide) (lc_shear hB h_shear C hi hR hc hsl hP hD hS hl kk)
    · exact lv_tableIn (tgt := 1153) hx hb de_Y_40 (by decide) (by decide) rfl (by decide) (lc_bending hB h_bending C hi hR hc hsl hP hD hS hl kk)
    · exact lv_tableIn (tgt := 1240) hx hb de_Y_40 (by decide) (by decide) rfl (by decide) (lc_limit hB h_limit C hi hR hc hsl hP hD hS hl kk)
    · exact lv_tableIn (tgt := 1432) hx hb de_Y_40 (by decide) (by decide) rfl (by decide) (lc_check hB h_check C hi hR hc hsl hP hD hS hl kk)
    · exact lv_tableIn (tgt := 1445) hx hb de_Y_40 (by decide) (by decide) rfl (by decide) (lc_ballast hB h_ballast C hi hR hc hsl hP hD hS hl kk)
    · exact lv_tableIn (tgt := 1459) hx hb de_Y_40 (by decide) (by decide) rfl (by decide) (lc_fill hB h_fill C hi hR hc hsl hP hD hS hl kk)
    · exact lv_tableIn (tgt := 1514) hx hb de_Y_40 (by decide) (by decide) rfl (by decide) (lc_plan hB h_plan C hi hR hc hsl hP hD hS hl kk)
    · exact lv_tableIn (tgt := 1642) hx hb de_Y_40 (by decide) (by decide) rfl (by decide) (lc_step hB h_step C hi hR hc hsl hP hD hS hl kk)
    · exact lv_tableIn (tgt := 1698) hx hb de_Y_40 (by decide) (by decide) rfl (by decide) (lc_broken hB h_broken C hi hR hc hsl hP hD hS hl kk)
    · exact lv_tableIn (tgt := 1711) hx hb de_Y_40 (by decide) (by decide) rfl (by decide) (lc_count hB h_count C hi hR hc hsl hP hD hS hl kk)
theorem xq_r1 : Cond.isRef (.static Bundle.tN "UNASSIGNED_STACK" Bundle.steD) ∈ flatC (Jvm.Cond.and given_1 narrow_1) := by decide +kernel
theorem xq_r2 : Cond.isRef (.static Bundle.tN "SUPPRESSED_SENTINEL" Bundle.listD) ∈ flatC (Jvm.Cond.and given_1 narrow_1) := by decide +kernel
theorem xq_l1 : Cond.laysStatic Bundle.tN "UNASSIGNED_STACK" Bundle.steD ∈ lw_tbl := by decide +kernel
theorem xq_l2 : Cond.laysStatic Bundle.tN "SUPPRESSED_SENTINEL" Bundle.listD ∈ lw_tbl := by decide +kernel
theorem xq_xw : ∀ w ∈ XW, w ∈ lw_tbl ∧ w.onTables = true := by decide +kernel
theorem xq_xs : ∀ q ∈ XS, Cond.stringRef "StabilitySums" q.1 q.2 ∈ lw_tbl := by decide +kernel
theorem xq_xn : ∀ q ∈ XN, Cond.not (.castable q.1 q.2) ∈ flatC (Jvm.Cond.and given_1 narrow_1) := by decide +kernel
theorem xq_start {s : State} {b : Nat} (hts : ∀ w ∈ lw_tbl, w.before #[Value.ref b] s = true) (hcur : ∃ cur, s.vm.findClass "StabilitySums" = some cur) (hgv : (Jvm.Cond.and given_1 narrow_1).before #[Value.ref b] s = true) : XQ s := by
  have hs := flat_of_before _ hgv
  obtain ⟨cur, hcur⟩ := hcur
  refine ⟨fun w hw => ?_, fun w hw => ?_, fun q hq => ?_, fun q hq => ?_⟩
  · simp only [th_4, List.mem_cons, List.not_mem_nil, or_false] at hw
    rcases hw with rfl | rfl | rfl | rfl
    · exact hs _ xq_r1
    · exact hs _ xq_r2
    · exact hts _ xq_l1
    · exact hts _ xq_l2
  · exact va_tabs (xq_xw w hw).2 rfl (hts w (xq_xw w hw).1)
  · obtain ⟨k, cf, i, a, g1, g2, g3, g4, g5, g6⟩ := Cond.stringRef_spec hcur (hts _ (xq_xs q hq))
    exact ⟨a, vk_R.of (hts _ (xq_xs q hq)) g6⟩
  · exact va_Nc.of (hs _ (xq_xn q hq))
theorem nl_tbl : ∀ w ∈ NL, w ∈ lw_tbl := by decide +kernel
theorem ac_known {s : State} {args : Array Value} {ty : FieldType} (h : (Cond.arrayClass ty).before args s = true) : ∃ cA : ClassId, ArrOfT s cA ty ∧ s.vm.findClass ("[" ++ ty.toString) = some cA := by
  obtain ⟨cA, k, comp, h1, h2, h3⟩ := Cond.arrayClass_spec h
  exact ⟨cA, fun n z => ⟨fun k h => (by cases h), k, h2, comp, h3⟩, h1⟩
set_option maxHeartbeats 4000000 in
set_option maxRecDepth 100000 in
theorem law_start {p : Program} {e : Env} {s : State} {m : MethodId} {below : List Frame} {meth : Method} {c : Code} {RR : St → St → Prop} (hPT : PT RR) (h0 : RR t0S t0M) (l : Launch) (hlt : l.stackTraces = false) {b L : Nat} {xs : Nat → Int32} (hL : L ≤ 5632) (C0 : lw_At p s m meth c b L xs) : W p l e room_1 s m #[Value.ref b] below meth c s.heap [] 0 0 (lw_Z below #[Value.ref b] s) (entryFrame m ([Value.ref b] : List Value).toArray 8) := by
  obtain ⟨hx, hb, hr, hml, hown, hts0, hX, hbl, hlocks, hgv⟩ := id C0
  have hts : ∀ w ∈ UW, w.before #[Value.ref b] s = true := fun w hw => hts0 w (uw_tbl w hw)
  obtain ⟨cS, iS, hKnS⟩ := u_known (C := "StabilitySums") (T := TB_S) (N := 10) (n := 10) hts ui_S (hts _ uw_46)
  obtain ⟨cW, iW, hKnW⟩ := u_known (C := "StabilitySums$Weights") (T := TB_W) (N := 5) (n := 5) hts ui_W (hts _ uw_54)
  obtain ⟨cT, iT, hKnT⟩ := u_known (C := "StabilitySums$Tanks") (T := TB_T) (N := 9) (n := 9) hts ui_T (hts _ uw_82)
  obtain ⟨cB, iB, hKnB⟩ := u_known (C := "StabilitySums$Table") (T := TB_B) (N := 4) (n := 4) hts ui_B (hts _ uw_124)
  obtain ⟨cL, iL, hKnL⟩ := u_known (C := "StabilitySums$Limits") (T := TB_L) (N := 4) (n := 4) hts ui_L (hts _ uw_146)
  obtain ⟨cE, iE, hKnE⟩ := u_known (C := "StabilitySums$Steps") (T := TB_E) (N := 4) (n := 4) hts ui_E (hts _ uw_168)
  obtain ⟨cU, iU, hKnU⟩ := u_known (C := "StabilitySums$Sums") (T := TB_U) (N := 5) (n := 5) hts ui_U (hts _ uw_192)
  obtain ⟨cC, iC, hKnC⟩ := u_known (C := "StabilitySums$Cuts") (T := TB_C) (N := 4) (n := 4) hts ui_C (hts _ uw_219)
  obtain ⟨cF, iF, hKnF⟩ := u_known (C := "StabilitySums$Fraction") (T := TB_F) (N := 2) (n := 2) hts ui_F (hts _ uw_241)
  obtain ⟨cM, iM, hKnM⟩ := u_known (C := "StabilitySumsModel") (T := TB_M) (N := 33) (n := 33) hts ui_M (hts _ uw_690)
  obtain ⟨dC, dI, hKc⟩ : ∃ (dC : Nat → ClassId) (dI : Nat → Nat → Nat), ∀ (k : Nat) (q : vw_C), CLS[k]? = some q → u_Kn s q.1 q.2.1 q.2.2 (dC k) (dI k) := by
    refine ⟨fun k => [cS, cW, cT, cB, cL, cE, cU, cC, cF, cM].getD k cS, fun k => [iS, iW, iT, iB, iL, iE, iU, iC, iF, iM].getD k iS, ?_⟩
    intro k q hq
    match k, hq with
    | 0, hq => cases hq; exact hKnS
    | 1, hq => cases hq; exact hKnW
    | 2, hq => cases hq; exact hKnT
    | 3, hq => cases hq; exact hKnB
    | 4, hq => cases hq; exact hKnL
    | 5, hq => cases hq; exact hKnE
    | 6, hq => cases hq; exact hKnU
    | 7, hq => cases hq; exact hKnC
    | 8, hq => cases hq; exact hKnF
    | 9, hq => cases hq; exact hKnM
    | k + 10, hq => exact nomatch hq
  obtain ⟨T0, hA0, hF0⟩ := ac_known (hts _ uw_80)
  obtain ⟨T1, hA1, hF1⟩ := ac_known (hts _ uw_166)
  obtain ⟨T2, hA2, hF2⟩ := ac_known (hts _ uw_190)
  obtain ⟨T, hTK⟩ : ∃ T : Nat → ClassId, ∀ (k : Nat) (q : ClassId × FieldType), (TY T)[k]? = some q → ArrOfT s q.1 q.2 ∧ va_RA s q.1 q.2 := by
    refine ⟨fun k => [T0, T1, T2].getD k T0, ?_⟩
    intro k q hq
    match k, hq with
    | 0, hq => cases hq; exact ⟨hA0, hF0⟩
    | 1, hq => cases hq; exact ⟨hA1, hF1⟩
    | 2, hq => cases hq; exact ⟨hA2, hF2⟩
    | k + 3, hq => exact nomatch hq
  have hK : va_K (dC, dI) CLS (TY T) s := ⟨hKc, hTK⟩
  have hN : NK s := fun w hw => va_Nw.of (NL_tab w hw) (hts0 w (nl_tbl w hw))
  have hXQ : XQ s := xq_start hts0 ⟨cS, hKnS.2.1⟩ hgv
  have C : LAW p l s m c b L xs dC dI T := ⟨hx, hb, hml, hown, hts, hX, hbl, hL, hK, hN, hXQ, hlt⟩
  have hA : ∀ q : Nat, s.heap.size ≤ q → AA s q := fun _ h => h
  have hS : va_S (AA s) s.heap s.heap [] := va_S.rf
  have hP : va_P (dC, dI) CLS [] s.heap := fun k q h => by simp at h
  have hD : va_D (AA s) [] := ⟨fun i j p q h => by simp at h, fun k q h => by simp at h⟩
  have hl := lv_entry ([.ref b]) (n := 8) (Nat.le_of_ble_eq_true rfl)
  rw [lg_entry_eq]
  generalize (lg_sl ([.ref b]) ++ List.replicate (8 - (lg_sl ([.ref b])).length) Slot.unset).toArray = ls at hl ⊢
  have hl : lv_has ls 8 [(0, .ref b)] := hl
  refine va_new (ci := 0) (fs := [.null, .null, .null, .null, .null, .null, .null, .null, .long 0, .long 0]) (C := "StabilitySums") (T := TB_S) (N := 10) hx hb hts ui_S tt_S tk_S hown (hts _ uw_45) (hts _ uw_46) (hts _ uw_27) hK hP hD hS hA rfl (fun j hj => by rcases (show j = 0 ∨ j = 1 ∨ j = 2 ∨ j = 3 ∨ j = 4 ∨ j = 5 ∨ j = 6 ∨ j = 7 ∨ j = 8 ∨ j = 9 by omega) with rfl | rfl | rfl | rfl | rfl | rfl | rfl | rfl | rfl | rfl <;> rfl) (Nat.le_of_ble_eq_true rfl) (Nat.le_of_ble_eq_true rfl) de_Y_0 (fun q0 H hP hD hS => ?_)
  refine lv_dup hx hb de_Y_3 rfl ?_
  refine ci_I (rest := [.ref q0]) (v := []) ⟨hx, hb, hml, hown, hts⟩ (mt_S_init l dC dI q0 T) (cwI 0 hts (uw_C uw_49) rfl rfl rfl (hts _ uw_27) (hts _ uw_47) (hts _ uw_48) rfl (by decide +kernel) ⟨(Nat.le_of_ble_eq_true rfl), (Nat.le_of_ble_eq_true rfl)⟩) hl.1 (Nat.le_of_ble_eq_true rfl) de_Y_4 ⟨(Nat.le_of_ble_eq_true rfl), (Nat.le_of_ble_eq_true rfl)⟩ hK hN hP hD hS hA (fun u0 H locs eu0 hP hD hS => ?_)
  have eu0 : u0 0 = q0 := eu0
  rw [← eu0]
  have hP : va_P (dC, dI) CLS (wS u0 T t0S) H := hP
  have hD : va_D (AA s) (wS u0 T t0S) := hD
  refine lv_astore_n (lv' := [(1, .ref (u0 0)), (0, .ref b)]) hx hb de_Y_7 rfl hl (by decide) rfl (fun ls hl => ?_)
  refine va_new (ci := 9) (fs := [.int 0, .int 0, .null, .null, .null, .null, .int 0, .null, .null, .null, .null, .null, .null, .null, .null, .null, .int 0, .null, .null, .null, .long 0, .long 0, .int 0, .null, .null, .null, .null, .int 0, .null, .null, .null, .long 0, .long 0]) (C := "StabilitySumsModel") (T := TB_M) (N := 33) hx hb hts ui_M tt_M tk_M hown (hts _ uw_689) (hts _ uw_690) (hts _ uw_36) hK hP hD hS hA rfl (fun j hj => by rcases (show j = 0 ∨ j = 1 ∨ j = 2 ∨ j = 3 ∨ j = 4 ∨ j = 5 ∨ j = 6 ∨ j = 7 ∨ j = 8 ∨ j = 9 ∨ j = 10 ∨ j = 11 ∨ j = 12 ∨ j = 13 ∨ j = 14 ∨ j = 15 ∨ j = 16 ∨ j = 17 ∨ j = 18 ∨ j = 19 ∨ j = 20 ∨ j = 21 ∨ j = 22 ∨ j = 23 ∨ j = 24 ∨ j = 25 ∨ j = 26 ∨ j = 27 ∨ j = 28 ∨ j = 29 ∨ j = 30 ∨ j = 31 ∨ j = 32 by omega) with rfl | rfl | rfl | rfl | rfl | rfl | rfl | rfl | rfl | rfl | rfl | rfl | rfl | rfl | rfl | rfl | rfl | rfl | rfl | rfl | rfl | rfl | rfl | rfl | rfl | rfl | rfl | rfl | rfl | rfl | rfl | rfl | rfl <;> rfl) (Nat.le_of_ble_eq_true rfl) (Nat.le_of_ble_eq_true rfl) de_Y_8 (fun q8 H hP hD hS => ?_)
  refine lv_dup hx hb de_Y_11 rfl ?_
  refine ci_I (rest := [.ref q8]) (v := wS u0 T t0S) ⟨hx, hb, hml, hown, hts⟩ (mt_M_init l dC dI q8 T) (cwI 0 hts (uw_C uw_693) rfl rfl rfl (hts _ uw_36) (hts _ uw_691) (hts _ uw_692) rfl (by decide +kernel) ⟨(Nat.le_of_ble_eq_true rfl), (Nat.le_of_ble_eq_true rfl)⟩) hl.1 (Nat.le_of_ble_eq_true rfl) de_Y_12 ⟨(Nat.le_of_ble_eq_true rfl), (Nat.le_of_ble_eq_true rfl)⟩ hK hN hP hD hS hA (fun u8 H locs eu8 hP hD hS => ?_)
  have eu8 : u8 0 = q8 := eu8
  rw [← eu8]
  refine lv_astore_n (lv' := [(2, .ref (u8 0)), (1, .ref (u0 0)), (0, .ref b)]) hx hb de_Y_15 rfl hl (by decide) rfl (fun ls hl => ?_)
  refine lv_iconst (v := 1) hx hb de_Y_16 (by decide) ?_
  refine va_newa (atype := .long) (a0 := (1, .inr (.inl (fun _ => 0)))) (ty := .long) hx hb (hts _ uw_80) rfl hK hP hD hS hA (fun _ => rfl) (by decide) (N' := 1) (by decide) (by decide) (Nat.le_of_ble_eq_true rfl) (Nat.le_of_ble_eq_true rfl) de_Y_17 (fun o cA H hK9 hP hD hS => ?_)
  obtain rfl := ta_0 hK9
  have hP : va_P (dC, dI) CLS (wA u0 T t0S o (fun _ => 0) ++ wM u8 T t0M) H := ww_P.mpr ⟨ww_P.mpr ⟨(ww_P.mp (ww_P.mp hP).1).1, (ww_P.mp hP).2⟩, (ww_P.mp (ww_P.mp hP).1).2⟩
  have hD : va_D (AA s) (wA u0 T t0S o (fun _ => 0) ++ wM u8 T t0M) := by
    obtain ⟨g1, g2, g3⟩ := ww_D.mp hD
    obtain ⟨g4, g5, g6⟩ := ww_D.mp g1
    refine ww_D.mpr ⟨ww_D.mpr ⟨g4, g2, fun i j p q hi hj => g3 i j p q (by rw [List.getElem?_append_left (List.getElem?_eq_some_iff.mp hi).1]; exact hi) hj⟩, g5, fun i j p q hi hj e => ?_⟩
    by_cases hlt9 : i < (wS u0 T t0S).length
    · rw [List.getElem?_append_left hlt9] at hi; exact g6 i j p q hi hj e
    · rw [List.getElem?_append_right (by omega)] at hi
      exact g3 ((wS u0 T t0S).length + j) _ q p (by rw [List.getElem?_append_right (Nat.le_add_right _ _), Nat.add_sub_cancel_left]; exact hj) hi e.symm
  refine lv_astore_n (lv' := [(3, .ref o), (2, .ref (u8 0)), (1, .ref (u0 0)), (0, .ref b)]) hx hb de_Y_19 rfl hl (by decide) rfl (fun ls hl => ?_)
  refine lv_iconst (v := 0) hx hb de_Y_20 (by decide) ?_
  refine lv_istore (lv' := LV b u0 u8 o 0) hx hb de_Y_21 hl (by decide) rfl (fun ls hl => ?_)
  exact law_loop hPT C hr hlocks u0 u8 o (L / 11) 0 t0S t0M (fun _ => 0) H locs ls (by omega) (by omega) h0 hP hD hS hl
