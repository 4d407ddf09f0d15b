/-! ===== CONTRACTS: a method, called with these arguments in this world, ends so =====
what comes out: .inl v it returned v; .inr E it threw an exception of the class cd_ex E -/
abbrev cd_Out : Type := Option Value ⊕ Nat
def cd_rm (N mc ms : Nat) : Room := { frames := N, cells := mc, slots := ms, locals := 64 * N }
def cd_OQ (G : cd_Gl) (s : State) (Q : cd_Out → cd_Wd → Prop) (o : Outcome) (t : State) : Prop := match o with
  | .returned v => ∃ w, cd_Hp G w t.heap ∧ Q (.inl v) w
  | .threw x => ∃ (w : cd_Wd) (E : Nat) (ce : Cell), cd_Hp G w t.heap ∧ t.heap[x]? = some ce ∧ ce.vm = .none ∧ G.2.2.size ≤ x ∧ s.vm.findClass (cd_ex E) = some ce.cls ∧ Q (.inr E) w
def cd_MQ (G : cd_Gl) (s : State) (below : List Frame) (mc ms : Nat) (Q : cd_Out → cd_Wd → Prop) : State → Prop := fun t =>
  ∃ (o : Outcome) (L : List Loc), t.status = .running ∧ Ended t below o ∧ s.WarmedH t.vm ∧ s.sameButNew ({ t with vm := s.vm } : State) L mc ms ∧ (∀ q ∈ L, G.2.2.size ≤ q.base) ∧ cd_OQ G s Q o t
def cd_Ct (G : cd_Gl) (l : Launch) (y : MethodName) (N mc ms : Nat) (av : List Value) (w : cd_Wd) (Q : cd_Out → cd_Wd → Prop) : Prop :=
  ∀ (p : Program) (e : Env) (s : State) (m : MethodId) (below : List Frame) (meth : Method) (c : Code) (T : State), p.tables.exec = Jvm.exec → s.methodNamed? y = some m → cd_Tb G s → s.heap = T.heap → cd_Hp G w T.heap →
    Stand p l e (cd_rm N mc ms) s m av.toArray below meth c T [] 0 0 → ∃ t, Steps p.tables e below (T.setTop (entryFrame m av.toArray c.maxLocals)) t ∧ cd_MQ G s below mc ms Q t
/-- a contract out of the walk of the body -/
theorem cd_ofW {G : cd_Gl} {l : Launch} {y : MethodName} {cc : ByteArray} {nL : Nat} {ret : Option FieldType} {N mc ms : Nat} {av : List Value} {w : cd_Wd} {Q : cd_Out → cd_Wd → Prop}
    (hc : Cond.code y cc nL ret ∈ lw_tbl ∧ cd_gw (Cond.code y cc nL ret) = true) (h1 : ∀ v ∈ av, v.category = 1) (hn : av.length ≤ nL)
    (h : ∀ C : cd_Cx, cd_Ok G y cc nL ret [] (cd_rm N mc ms) C → cd_Go G l C (cd_MQ G (cx_s C) (cx_b C) mc ms Q) 0 0 w 0 (av.map some ++ List.replicate (nL - av.length) none) []) : cd_Ct G l y N mc ms av w Q := by
  intro p e s m below meth c T hx hnm hT hsT hH X
  obtain ⟨meth', c', e1, e2, e3, e4, e5, e6, e7, -⟩ := Cond.code_spec hnm (hT.1 _ hc.1 hc.2 #[])
  cases Option.some.inj (e1.symm.trans X.method)
  cases Option.some.inj (e2.symm.trans X.code)
  have hlo := cd_Lo.entry (n := nL) h1 hn
  have hO : cd_Ok G y cc nL ret [] (cd_rm N mc ms) (p, e, cd_rm N mc ms, s, m, av.toArray, below, meth, c) :=
    ⟨hx, e3, e4, findClass_of_methodNamed hnm, e5, e6, (name_of_methodNamed hnm X.method).1, hT, by rw [Array.isEmpty_iff.mp e7]; rfl, rfl, by rw [hsT]; exact hH.h0⟩
  have hw := h _ hO T.heap [] _ hH (fun x hx => by cases hx) hlo
  rw [e4, lg_entry_eq]
  exact hw T rfl X
theorem cd_ofWX {G : cd_Gl} {l : Launch} {y : MethodName} {cc : ByteArray} {nL : Nat} {ret : Option FieldType} {ex : List (Nat × Nat × Nat × Nat)} {N mc ms : Nat} {av : List Value} {w : cd_Wd} {Q : cd_Out → cd_Wd → Prop}
    (hc : Cond.codeWith y cc nL ret ex ∈ lw_tbl ∧ cd_gw (Cond.codeWith y cc nL ret ex) = true) (h1 : ∀ v ∈ av, v.category = 1) (hn : av.length ≤ nL)
    (h : ∀ C : cd_Cx, cd_Ok G y cc nL ret ex (cd_rm N mc ms) C → cd_Go G l C (cd_MQ G (cx_s C) (cx_b C) mc ms Q) 0 0 w 0 (av.map some ++ List.replicate (nL - av.length) none) []) : cd_Ct G l y N mc ms av w Q := by
  intro p e s m below meth c T hx hnm hT hsT hH X
  obtain ⟨m', meth', c', e0, e1, e2, e3, e4, e7, e5, e6, -⟩ := Cond.codeWith_spec (hT.1 _ hc.1 hc.2 #[])
  cases Option.some.inj (e0.symm.trans hnm)
  cases Option.some.inj (e1.symm.trans X.method)
  cases Option.some.inj (e2.symm.trans X.code)
  have hlo := cd_Lo.entry (n := nL) h1 hn
  have hO : cd_Ok G y cc nL ret ex (cd_rm N mc ms) (p, e, cd_rm N mc ms, s, m, av.toArray, below, meth, c) :=
    ⟨hx, e3, e4, findClass_of_methodNamed hnm, e5, e6, (name_of_methodNamed hnm X.method).1, hT, e7, rfl, by rw [hsT]; exact hH.h0⟩
  have hw := h _ hO T.heap [] _ hH (fun x hx => by cases hx) hlo
  rw [e4, lg_entry_eq]
  exact hw T rfl X
theorem cd_Ct.mono {G : cd_Gl} {l : Launch} {y : MethodName} {N mc ms : Nat} {av : List Value} {w : cd_Wd} {Q Q' : cd_Out → cd_Wd → Prop} (h : cd_Ct G l y N mc ms av w Q) (hq : ∀ o w', Q o w' → Q' o w') : cd_Ct G l y N mc ms av w Q' := by
  intro p e s m below meth c T hx hnm hT hsT hH X
  obtain ⟨t, st, o, L, a1, a2, a3, a4, a5, a6⟩ := h p e s m below meth c T hx hnm hT hsT hH X
  refine ⟨t, st, o, L, a1, a2, a3, a4, a5, ?_⟩
  cases o with
  | returned v =>
    obtain ⟨w', b1, b2⟩ := a6
    exact ⟨w', b1, hq _ _ b2⟩
  | threw x =>
    obtain ⟨w', E, ce, b1, b2, b3, b4, b5, b6⟩ := a6
    exact ⟨w', E, ce, b1, b2, b3, b4, b5, hq _ _ b6⟩
section Calls9
variable {p : Program} {l : Launch} {e : Env} {R : Room} {s : State} {m : MethodId} {args : Array Value} {below : List Frame} {meth : Method} {c : Code} {T : State} {locs : List Loc} {cells slots : Nat}
/-- what a method's code word says of the method, whichever of the two it is -/
def cd_Cd (y : MethodName) (nL : Nat) : Prop := (∃ (cc : ByteArray) (ret : Option FieldType), Cond.code y cc nL ret ∈ lw_tbl ∧ cd_gw (Cond.code y cc nL ret) = true) ∨ ∃ (cc : ByteArray) (ret : Option FieldType) (ex : List (Nat × Nat × Nat × Nat)), Cond.codeWith y cc nL ret ex ∈ lw_tbl ∧ cd_gw (Cond.codeWith y cc nL ret ex) = true
theorem cd_Cd.of {G : cd_Gl} {y : MethodName} {nL : Nat} (h : cd_Cd y nL) {s : State} (hT : cd_Tb G s) : ∃ m meth c, s.methodNamed? y = some m ∧ s.vm.method? m = some meth ∧ meth.code = some c ∧ c.maxLocals = nL ∧ meth.locks = false ∧ parseMethodDescriptor y.desc = some meth.sig := by
  rcases h with ⟨cc, ret, hc⟩ | ⟨cc, ret, ex, hc⟩
  · have hw := hT.1 _ hc.1 hc.2 #[]
    obtain ⟨m, hm⟩ := Cond.code_named hw
    obtain ⟨meth, c, e1, e2, e3, e4, e5, e6, e7, e8⟩ := Cond.code_spec hm hw
    exact ⟨m, meth, c, hm, e1, e2, e4, e6, e8⟩
  · obtain ⟨m, meth, c, e0, e1, e2, e3, e4, e7, e5, e6, e8⟩ := Cond.codeWith_spec (hT.1 _ hc.1 hc.2 #[])
    exact ⟨m, meth, c, e0, e1, e2, e4, e6, e8⟩
/-- the call itself, behind the step that links it -/
theorem cd_callX {G : cd_Gl} (X : Stand p l e R s m args below meth c T locs cells slots) (hx : p.tables.exec = Jvm.exec) (hT : cd_Tb G s) {g : JFrame} (hg : g.method = m) (hsize : g.locals.size = c.maxLocals) {ig : Instr} {len : Nat} (hdg : decode c.code g.pc = .ok (ig, len))
    {y : MethodName} {nL N mc ms : Nat} {av : List Value} {w : cd_Wd} {Q : cd_Out → cd_Wd → Prop} (hC : cd_Ct G l y N mc ms av w Q) (hcd : cd_Cd y nL) (hpl : plainName y.cls = true) {mk : MethodId} (hn : s.methodNamed? y = some mk) (hH : cd_Hp G w T.heap)
    (hfr : N + 1 ≤ R.frames) (hlo : 2 * g.monitorRoom + (g.stack.map fun v => v.category).sum + (nL + 11) + 64 * N ≤ R.locals) (hce : cells + mc ≤ R.cells) (hsl : slots + ms ≤ R.slots) :
    ∃ (o : Outcome) (T' : State) (L : List Loc), Stand p l e R s m args below meth c T' (locs ++ L) (cells + mc) (slots + ms) ∧ (∀ q ∈ L, G.2.2.size ≤ q.base) ∧ cd_OQ G s Q o T' ∧
      ∀ acts, Steps p.tables e below (doInvoke e (T.setTop g) acts mk av.toArray).1 (match o with
        | .returned v => T'.setTop { g with pc := g.pc + len, stack := v.toList ++ g.stack }
        | .threw x => (T'.setTop g).pushFrame (.throwing x)) := by
  obtain ⟨mk0, methk, ck, e0, e1, e2, e4, e6, e8⟩ := hcd.of hT
  cases Option.some.inj (e0.symm.trans hn)
  have hmk : T.vm.method? mk = some methk := by rw [X.warmed.alike.method?]; exact e1
  have hnT : T.methodNamed? y = some mk := X.named hn
  have hpk : T.plainMethod mk := State.plainMethod.of_named (s := T) (plainFor_of_name hpl) hnT hmk
  obtain ⟨Y, hin⟩ := X.into hg hsize hdg av.toArray (R' := cd_rm N mc ms) hmk e2 e6 hpk hfr (by rw [e4]; exact hlo) hce hsl
  have hWc : s.WarmedH (T.calling g mk av.toArray).vm := X.warmed
  obtain ⟨t, st, o, L, a1, a2, a3, a4, a5, a6⟩ := hC p e (T.calling g mk av.toArray) mk (.java g :: below) methk ck ((T.setTop g).pushFrame (.java (entryFrame mk av.toArray ck.maxLocals))) hx hnT (hT.warm hWc) rfl (by exact hH) Y
  have hst : ∀ acts, Steps p.tables e below (doInvoke e (T.setTop g) acts mk av.toArray).1 t := fun acts => by rw [hin acts]; exact Steps.weaken (mid := [.java g]) st
  cases o with
  | returned v =>
    obtain ⟨w', b1, b2⟩ := a6
    obtain ⟨T', X', -, -, ht⟩ := X.outOf hg hdg a2 a3 a4
    refine ⟨.returned v, T', L, X', a5, ⟨w', ?_, b2⟩, fun acts => ?_⟩
    · rw [ht] at b1; exact b1
    · have h9 := hst acts
      rw [ht] at h9
      exact h9
  | threw x =>
    obtain ⟨w', E, ce, b1, b2, b3, b4, b5, b6⟩ := a6
    obtain ⟨T', X', -, -, ht⟩ := X.outOfThrown hg a2 a3 a4
    refine ⟨.threw x, T', L, X', a5, ⟨w', E, ce, ?_, ?_, b3, b4, ?_, b6⟩, fun acts => ?_⟩
    · rw [ht] at b1; exact b1
    · rw [ht] at b2; exact b2
    · rw [← hWc.alike.findClass]; exact b5
    · have h9 := hst acts
      rw [ht] at h9
      exact h9
end Calls9
section Rows2
variable {G : cd_Gl} {l : Launch} {C : cd_Cx} {Q : State → Prop} {k n : Nat} {w : cd_Wd} {pc : Nat} {lv : List (Option Value)} {rest : List Value} {y : MethodName} {cc : ByteArray} {nL : Nat} {ret : Option FieldType} {ex : List (Nat × Nat × Nat × Nat)} {R : Room}
/-- the machine, with an exception of the class cd_ex E under way in this frame at pc, comes to Q -/
def cd_Gx (G : cd_Gl) (l : Launch) (C : cd_Cx) (Q : State → Prop) (k n : Nat) (w : cd_Wd) (pc : Nat) (lv : List (Option Value)) (E : Nat) : Prop :=
  ∀ (T : State) (locs : List Loc) (ls : Array Slot) (st : List Value) (x : Nat) (ce : Cell), cd_Hp G w T.heap → (∀ z ∈ locs, G.2.2.size ≤ z.base) → cd_Lo ls lv → T.heap[x]? = some ce → ce.vm = .none → G.2.2.size ≤ x → (cx_s C).vm.findClass (cd_ex E) = some ce.cls →
    Stand (cx_p C) l (cx_e C) (cx_R C) (cx_s C) (cx_m C) (cx_a C) (cx_b C) (cx_h C) (cx_c C) T locs k n → ∃ t, Steps (cx_p C).tables (cx_e C) (cx_b C) ((T.setTop (F0 (cx_m C) pc ls st)).pushFrame (.throwing x)) t ∧ Q t
/-- a call, its linking step given -/
theorem cd_call (O : cd_Ok G y cc nL ret ex R C) {y' : MethodName} {nL' N mc ms : Nat} {av st : List Value} {ig : Instr} (hcd : cd_Cd y' nL') (hpl : plainName y'.cls = true) (hd : decode cc pc = .ok (ig, 3))
    (hfr : N + 1 ≤ R.frames) (hlo : (rest.map fun v => v.category).sum + (nL' + 11) + 64 * N ≤ R.locals) (hce : k + mc ≤ R.cells) (hsl : n + ms ≤ R.slots)
    (hlink : ∀ (T : State) (locs : List Loc) (ls : Array Slot), cd_Hp G w T.heap → ls.size = (cx_c C).maxLocals → Stand (cx_p C) l (cx_e C) (cx_R C) (cx_s C) (cx_m C) (cx_a C) (cx_b C) (cx_h C) (cx_c C) T locs k n → ∃ (mk : MethodId) (vm' : Vm), (cx_s C).methodNamed? y' = some mk ∧ Stand (cx_p C) l (cx_e C) (cx_R C) (cx_s C) (cx_m C) (cx_a C) (cx_b C) (cx_h C) (cx_c C) (T.setVm vm') locs k n ∧
      ∀ target, (∀ acts, Steps (cx_p C).tables (cx_e C) (cx_b C) (doInvoke (cx_e C) ((T.setVm vm').setTop (F0 (cx_m C) pc ls rest)) acts mk av.toArray).1 target) → Steps (cx_p C).tables (cx_e C) (cx_b C) (T.setTop (F0 (cx_m C) pc ls st)) target)
    (hlv : lv.length = nL)
    (hC : cd_Ct G l y' N mc ms av w (fun o w' => match o with
      | .inl v => cd_Go G l C Q (k + mc) (n + ms) w' (pc + 3) lv (v.toList ++ rest)
      | .inr E => cd_Gx G l C Q (k + mc) (n + ms) w' pc lv E)) : cd_Go G l C Q k n w pc lv st := by
  intro H locs ls a1 b1 c1 T hT X
  have hsz : ls.size = (cx_c C).maxLocals := by rw [c1.1, hlv, O.2.2.1]
  obtain ⟨mk, vm', h1, X1, hst⟩ := hlink T locs ls (by rw [hT]; exact a1) hsz X
  have hR := O.2.2.2.2.2.2.2.2.2.1
  obtain ⟨o, T', L, X2, hL, hq, hstep⟩ := cd_callX (g := F0 (cx_m C) pc ls rest) X1 O.1 O.2.2.2.2.2.2.2.1 rfl hsz (by rw [O.2.1]; exact hd) hC hcd hpl h1 (by show cd_Hp G w T.heap; rw [hT]; exact a1) (by rw [hR]; exact hfr) (by rw [hR]; show 2 * 0 + (rest.map fun v => v.category).sum + (nL' + 11) + 64 * N ≤ R.locals; omega) (by rw [hR]; exact hce) (by rw [hR]; exact hsl)
  cases o with
  | returned v =>
    obtain ⟨w', q1, q2⟩ := hq
    obtain ⟨t, s1, s2⟩ := q2 T'.heap (locs ++ L) ls q1 (t_lL b1 hL) c1 T' rfl X2
    exact ⟨t, hst _ fun acts => (hstep acts).trans s1, s2⟩
  | threw x =>
    obtain ⟨w', E, ce, q1, q2, q3, q4, q5, q6⟩ := hq
    obtain ⟨t, s1, s2⟩ := q6 T' (locs ++ L) ls rest x ce q1 (t_lL b1 hL) c1 q2 q3 q4 q5 X2
    exact ⟨t, hst _ fun acts => (hstep acts).trans s1, s2⟩
theorem g_calls (O : cd_Ok G y cc nL ret ex R C) {y' : MethodName} {nL' N mc ms idx : Nat} {av : List Value} (hcd : cd_Cd y' nL') (hpl : plainName y'.cls = true ∧ y'.cls ≠ "java/lang/invoke/MethodHandle" ∧ y'.cls ≠ "java/lang/invoke/VarHandle")
    (hl : Cond.methodLink y.cls idx y' ∈ lw_tbl ∧ cd_gw (Cond.methodLink y.cls idx y') = true) (hs : Cond.static y' ∈ lw_tbl ∧ cd_gw (Cond.static y') = true) (hini : Cond.initialized y'.cls ∈ lw_tbl ∧ cd_gw (Cond.initialized y'.cls) = true)
    (hlen : (parseMethodDescriptor y'.desc).map (fun d => d.parameters.length) = some av.length) (hd : decode cc pc = .ok (.invokestatic idx, 3)) (hlv : lv.length = nL)
    (hfr : N + 1 ≤ R.frames) (hlo : (rest.map fun v => v.category).sum + (nL' + 11) + 64 * N ≤ R.locals) (hce : k + mc ≤ R.cells) (hsl : n + ms ≤ R.slots)
    (hC : cd_Ct G l y' N mc ms av w (fun o w' => match o with
      | .inl v => cd_Go G l C Q (k + mc) (n + ms) w' (pc + 3) lv (v.toList ++ rest)
      | .inr E => cd_Gx G l C Q (k + mc) (n + ms) w' pc lv E)) : cd_Go G l C Q k n w pc lv (av.reverse ++ rest) := by
  refine cd_call O hcd hpl.1 hd hfr hlo hce hsl (fun T locs ls hH hsz X => ?_) hlv hC
  obtain ⟨mk, methk, ck, e0, e1, e2, e4, e6, e8⟩ := hcd.of O.2.2.2.2.2.2.2.1
  obtain ⟨kP, hkP, -⟩ := className_of_methodNamed e0
  have hlen' : av.length = methk.sig.parameters.length := by rw [e8] at hlen; exact (Option.some.inj hlen).symm
  obtain ⟨vm', X1, st⟩ := X.invokestatic O.1 O.2.2.2.1 (cd_word O hl) e0 e1 (Cond.static_spec e0 e1 (cd_word O hs)) hkP (Cond.initialized_spec (findClass_of_methodNamed e0) hkP (cd_word O hini)) hpl.2 (g := F0 (cx_m C) pc ls (av.reverse ++ rest)) rfl (argsL := av) (rest := rest) hlen' rfl (by rw [O.2.1]; exact hd)
  exact ⟨mk, vm', e0, X1, st⟩
theorem g_callv (O : cd_Ok G y cc nL ret ex R C) {y' : MethodName} {nL' N mc ms idx ci a : Nat} {q : vw_C} {av : List Value} (hcd : cd_Cd y' nL') (hpl : plainName y'.cls = true ∧ y'.cls ≠ "java/lang/invoke/MethodHandle" ∧ y'.cls ≠ "java/lang/invoke/VarHandle") (hq : cd_cls[ci]? = some q) (ha : cd_kd w a = 2 * ci + 2)
    (hl : Cond.methodLink y.cls idx y' ∈ lw_tbl ∧ cd_gw (Cond.methodLink y.cls idx y') = true) (hs : Cond.instanceMethod y' ∈ lw_tbl ∧ cd_gw (Cond.instanceMethod y') = true) (hsel : Cond.selects q.1 y' y' ∈ lw_tbl ∧ cd_gw (Cond.selects q.1 y' y') = true)
    (hlen : (parseMethodDescriptor y'.desc).map (fun d => d.parameters.length) = some av.length) (hd : decode cc pc = .ok (.invokevirtual idx, 3)) (hlv : lv.length = nL)
    (hfr : N + 1 ≤ R.frames) (hlo : (rest.map fun v => v.category).sum + (nL' + 11) + 64 * N ≤ R.locals) (hce : k + mc ≤ R.cells) (hsl : n + ms ≤ R.slots)
    (hC : cd_Ct G l y' N mc ms (.ref a :: av) w (fun o w' => match o with
      | .inl v => cd_Go G l C Q (k + mc) (n + ms) w' (pc + 3) lv (v.toList ++ rest)
      | .inr E => cd_Gx G l C Q (k + mc) (n + ms) w' pc lv E)) : cd_Go G l C Q k n w pc lv (av.reverse ++ .ref a :: rest) := by
  refine cd_call O hcd hpl.1 hd hfr hlo hce hsl (fun T locs ls hH hsz X => ?_) hlv hC
  obtain ⟨mk, methk, ck, e0, e1, e2, e4, e6, e8⟩ := hcd.of O.2.2.2.2.2.2.2.1
  have hlen' : av.length = methk.sig.parameters.length := by rw [e8] at hlen; exact (Option.some.inj hlen).symm
  obtain ⟨mk2, methM, hnamed, hmethM, hstM, habM⟩ := Cond.instanceMethod_spec (cd_word O hs)
  cases Option.some.inj (e0.symm.trans hnamed)
  cases Option.some.inj (e1.symm.trans hmethM)
  obtain ⟨cellB, g1, g2, g3, -⟩ := hH.obj ha hq
  obtain ⟨c2, r2, m2, q1, q2, q3, q4, kP, hkP, hkPi⟩ := Cond.selects_spec (cd_word O hsel)
  have hcls := ((cd_K O).1 ci _ hq).2.1
  cases Option.some.inj (hcls.symm.trans q1)
  cases (State.methodFound?_of_named hnamed hpl.2).symm.trans q2
  cases hnamed.symm.trans q3
  have hselP : selectMethod (cx_e C).platform (cx_s C).vm cellB.cls mk = .method mk := by rw [Launch.admits_selectMethod X.admits, g2]; exact q4
  obtain ⟨vm₁, X₁, hstep₁⟩ := X.invokevirtual O.1 O.2.2.2.1 (cd_word O hl) hnamed hmethM hstM hkP hkPi hpl.2 (a := a) (cell := cellB) g1
    (fun z h => by rw [g3] at h; cases h) hselP hmethM habM hkP hkPi (g := F0 (cx_m C) pc ls (av.reverse ++ .ref a :: rest)) rfl (argsL := av) (rest := rest) hlen' rfl (by rw [O.2.1]; exact hd)
  exact ⟨mk, vm₁, hnamed, X₁, hstep₁⟩
theorem g_calli (O : cd_Ok G y cc nL ret ex R C) {y' : MethodName} {cc' : ByteArray} {nL' N mc ms idx a : Nat} {av : List Value} (hcd : Cond.code y' cc' nL' none ∈ lw_tbl ∧ cd_gw (Cond.code y' cc' nL' none) = true) (hpl : plainName y'.cls = true ∧ y'.cls ≠ "java/lang/invoke/MethodHandle" ∧ y'.cls ≠ "java/lang/invoke/VarHandle") (hnm : y'.name = "<init>")
    (hl : Cond.methodLink y.cls idx y' ∈ lw_tbl ∧ cd_gw (Cond.methodLink y.cls idx y') = true) (hs : Cond.instanceMethod y' ∈ lw_tbl ∧ cd_gw (Cond.instanceMethod y') = true)
    (hlen : (parseMethodDescriptor y'.desc).map (fun d => d.parameters.length) = some av.length) (hd : decode cc pc = .ok (.invokespecial idx, 3)) (hlv : lv.length = nL)
    (hfr : N + 1 ≤ R.frames) (hlo : (rest.map fun v => v.category).sum + (nL' + 11) + 64 * N ≤ R.locals) (hce : k + mc ≤ R.cells) (hsl : n + ms ≤ R.slots)
    (hC : cd_Ct G l y' N mc ms (.ref a :: av) w (fun o w' => match o with
      | .inl v => cd_Go G l C Q (k + mc) (n + ms) w' (pc + 3) lv (v.toList ++ rest)
      | .inr E => cd_Gx G l C Q (k + mc) (n + ms) w' pc lv E)) : cd_Go G l C Q k n w pc lv (av.reverse ++ .ref a :: rest) := by
  refine cd_call O (Or.inl ⟨_, _, hcd⟩) hpl.1 hd hfr hlo hce hsl (fun T locs ls hH hsz X => ?_) hlv hC
  have hpl9 : (cx_e C).platform.magicAccessors = ({} : Platform).magicAccessors := by rw [X.admits.platform]
  obtain ⟨mk, methM, cM, kP, vm₁, hnamed, hmethM, hcodeM, -, hlocalsM, -, hkP, -, hW₁, hstep₁⟩ := Steps.initColdArgs (e := cx_e C) X.here O.1 X.warmed hpl9 O.2.2.2.1 hnm hpl.2 (cd_word O hl) (cd_word O hs) (cd_word O hcd) (f := F0 (cx_m C) pc ls (av.reverse ++ .ref a :: rest)) rfl (fun sig hsig => by rw [hsig] at hlen; exact (Option.some.inj hlen).symm) rfl (by rw [O.2.1]; exact hd)
  exact ⟨mk, vm₁, hnamed, X.noted hW₁, hstep₁⟩
/-- Object's constructor -/
theorem g_obj (O : cd_Ok G y cc nL ret ex R C) {idx a : Nat} (hl : Cond.methodLink y.cls idx Lib.objectInit ∈ lw_tbl ∧ cd_gw (Cond.methodLink y.cls idx Lib.objectInit) = true) (hs : Cond.instanceMethod Lib.objectInit ∈ lw_tbl ∧ cd_gw (Cond.instanceMethod Lib.objectInit) = true) (hcd : Cond.code Lib.objectInit ⟨#[0xb1]⟩ 1 none ∈ lw_tbl ∧ cd_gw (Cond.code Lib.objectInit ⟨#[0xb1]⟩ 1 none) = true)
    (hd : decode cc pc = .ok (.invokespecial idx, 3)) (hlv : lv.length = nL) (hfr : 1 ≤ R.frames) (hlo : (rest.map fun v => v.category).sum + 12 ≤ R.locals)
    (h : cd_Go G l C Q k n w (pc + 3) lv rest) : cd_Go G l C Q k n w pc lv (.ref a :: rest) := by
  intro H locs ls a1 b1 c1
  have hR := O.2.2.2.2.2.2.2.2.2.1
  have hsz : ls.size = (cx_c C).maxLocals := by rw [c1.1, hlv, O.2.2.1]
  exact W.objInit O.1 O.2.1 O.2.2.2.1 (cd_word O hl) (cd_word O hs) (cd_word O hcd) rfl hsz rfl hd (by rw [hR]; exact hfr) (by rw [hR]; show 2 * 0 + _ + 12 ≤ _; omega) (h H locs ls a1 b1 c1)
/-! ### the ends -/
theorem cd_end {mc ms : Nat} {Q : cd_Out → cd_Wd → Prop} {T : State} {locs : List Loc} {fs : List Frame} {v : Option Value} (hk : k ≤ mc) (hn : n ≤ ms) (hH : cd_Hp G w T.heap) (hl : ∀ x ∈ locs, G.2.2.size ≤ x.base) (hq : Q (.inl v) w)
    (hrun : (T.setFrames fs).status = .running) (hended : Ended (T.setFrames fs) (cx_b C) (.returned v)) (hW : (cx_s C).WarmedH (T.setFrames fs).vm) (hframe : (cx_s C).sameButNew ({ T.setFrames fs with vm := (cx_s C).vm } : State) locs k n) : cd_MQ G (cx_s C) (cx_b C) mc ms Q (T.setFrames fs) :=
  ⟨.returned v, locs, hrun, hended, hW, hframe.weaken (fun _ h _ => h) hk hn, hl, w, hH, hq⟩
theorem g_ret (O : cd_Ok G y cc nL none ex R C) {mc ms : Nat} {Q : cd_Out → cd_Wd → Prop} (hd : decode cc pc = .ok (.return_, 1)) (hk : k ≤ mc) (hn : n ≤ ms) (hq : Q (.inl none) w) : cd_Go G l C (cd_MQ G (cx_s C) (cx_b C) mc ms Q) k n w pc lv [] := by
  intro H locs ls a1 b1 c1 T hT X
  have hlocks := O.2.2.2.2.2.1
  have hr := O.2.2.2.2.1
  obtain ⟨fs, hret, hrun, hended, hW, hframe⟩ := X.leave (v := none) (fun _ => rfl)
  have hmeth' : T.vm.method? (cx_m C) = some (cx_h C) := X.method'
  refine ⟨T.setFrames fs, ?_, cd_end hk hn (by rw [hT]; exact a1) b1 hq hrun hended hW hframe⟩
  have hexec := O.1
  have hb := O.2.1
  jvm_step X.here [X.here.top, hexec, hb, hd, hmeth', hr]
  (try refine ⟨rfl, ?_⟩); (try refine ⟨rfl, ?_⟩)
  first | (intro acts; rw [hret _ acts rfl rfl rfl]) | rw [hret _ _ rfl rfl rfl]
  exact Steps.refl _
theorem g_iret (O : cd_Ok G y cc nL (some .int) ex R C) {mc ms : Nat} {v : Int32} {Q : cd_Out → cd_Wd → Prop} (hd : decode cc pc = .ok (.ireturn, 1)) (hk : k ≤ mc) (hn : n ≤ ms) (hq : Q (.inl (some (.int v))) w) : cd_Go G l C (cd_MQ G (cx_s C) (cx_b C) mc ms Q) k n w pc lv [.int v] := by
  intro H locs ls a1 b1 c1 T hT X
  have hlocks := O.2.2.2.2.2.1
  have hr := O.2.2.2.2.1
  obtain ⟨fs, hret, hrun, hended, hW, hframe⟩ := X.leave (v := some (.int v)) (fun h => by rw [hr] at h; cases h)
  have hmeth' : T.vm.method? (cx_m C) = some (cx_h C) := X.method'
  refine ⟨T.setFrames fs, ?_, cd_end hk hn (by rw [hT]; exact a1) b1 hq hrun hended hW hframe⟩
  have hexec := O.1
  have hb := O.2.1
  jvm_step X.here [X.here.top, hexec, hb, hd, hmeth', hr, narrow]
  (try refine ⟨rfl, ?_⟩); (try refine ⟨rfl, ?_⟩)
  first | (intro acts; rw [hret _ acts rfl rfl rfl]) | rw [hret _ _ rfl rfl rfl]
  exact Steps.refl _
theorem g_zret (O : cd_Ok G y cc nL (some .boolean) ex R C) {mc ms : Nat} {v : Int32} {Q : cd_Out → cd_Wd → Prop} (hd : decode cc pc = .ok (.ireturn, 1)) (hv : v = 0 ∨ v = 1) (hk : k ≤ mc) (hn : n ≤ ms) (hq : Q (.inl (some (.int v))) w) : cd_Go G l C (cd_MQ G (cx_s C) (cx_b C) mc ms Q) k n w pc lv [.int v] := by
  intro H locs ls a1 b1 c1 T hT X
  have hlocks := O.2.2.2.2.2.1
  have hr := O.2.2.2.2.1
  obtain ⟨fs, hret, hrun, hended, hW, hframe⟩ := X.leave (v := some (.int v)) (fun h => by rw [hr] at h; cases h)
  have hmeth' : T.vm.method? (cx_m C) = some (cx_h C) := X.method'
  refine ⟨T.setFrames fs, ?_, cd_end hk hn (by rw [hT]; exact a1) b1 hq hrun hended hW hframe⟩
  have hexec := O.1
  have hb := O.2.1
  have hnv : narrow .boolean (.int v) = .int v := by rcases hv with rfl | rfl <;> rfl
  jvm_step X.here [X.here.top, hexec, hb, hd, hmeth', hr, hnv]
  (try refine ⟨rfl, ?_⟩); (try refine ⟨rfl, ?_⟩)
  first | (intro acts; rw [hret _ acts rfl rfl rfl]) | rw [hret _ _ rfl rfl rfl]
  exact Steps.refl _
theorem g_aretN {D : String} (O : cd_Ok G y cc nL (some (.object D)) ex R C) {mc ms : Nat} {Q : cd_Out → cd_Wd → Prop} (hd : decode cc pc = .ok (.areturn, 1)) (hk : k ≤ mc) (hn : n ≤ ms) (hq : Q (.inl (some .null)) w) : cd_Go G l C (cd_MQ G (cx_s C) (cx_b C) mc ms Q) k n w pc lv [.null] := by
  intro H locs ls a1 b1 c1 T hT X
  have hlocks := O.2.2.2.2.2.1
  have hr := O.2.2.2.2.1
  obtain ⟨fs, hret, hrun, hended, hW, hframe⟩ := X.leave (v := some .null) (fun h => by rw [hr] at h; cases h)
  have hmeth' : T.vm.method? (cx_m C) = some (cx_h C) := X.method'
  refine ⟨T.setFrames fs, ?_, cd_end hk hn (by rw [hT]; exact a1) b1 hq hrun hended hW hframe⟩
  have hexec := O.1
  have hb := O.2.1
  jvm_step X.here [X.here.top, hexec, hb, hd, hmeth', hr]
  (try refine ⟨rfl, ?_⟩); (try refine ⟨rfl, ?_⟩)
  first | (intro acts; rw [hret _ acts rfl rfl rfl]) | rw [hret _ _ rfl rfl rfl]
  exact Steps.refl _
theorem g_aretS {D : String} (O : cd_Ok G y cc nL (some (.object D)) ex R C) {mc ms a : Nat} {Q : cd_Out → cd_Wd → Prop} (hd : decode cc pc = .ok (.areturn, 1)) (hk : k ≤ mc) (hn : n ≤ ms) (hq : Q (.inl (some (.ref a))) w) : cd_Go G l C (cd_MQ G (cx_s C) (cx_b C) mc ms Q) k n w pc lv [.ref a] := by
  intro H locs ls a1 b1 c1 T hT X
  have hlocks := O.2.2.2.2.2.1
  have hr := O.2.2.2.2.1
  obtain ⟨fs, hret, hrun, hended, hW, hframe⟩ := X.leave (v := some (.ref a)) (fun h => by rw [hr] at h; cases h)
  have hmeth' : T.vm.method? (cx_m C) = some (cx_h C) := X.method'
  refine ⟨T.setFrames fs, ?_, cd_end hk hn (by rw [hT]; exact a1) b1 hq hrun hended hW hframe⟩
  have hexec := O.1
  have hb := O.2.1
  jvm_step X.here [X.here.top, hexec, hb, hd, hmeth', hr]
  (try refine ⟨rfl, ?_⟩); (try refine ⟨rfl, ?_⟩)
  first | (intro acts; rw [hret _ acts rfl rfl rfl]) | rw [hret _ _ rfl rfl rfl]
  exact Steps.refl _
/-- an exception leaves a method that has no handlers -/
theorem gx_out (O : cd_Ok G y cc nL ret [] R C) {mc ms E : Nat} {Q : cd_Out → cd_Wd → Prop} (hk : k ≤ mc) (hn : n ≤ ms) (hq : Q (.inr E) w) : cd_Gx G l C (cd_MQ G (cx_s C) (cx_b C) mc ms Q) k n w pc lv E := by
  intro T locs ls st x ce hH hl hls h1 h2 h3 h4 X
  have hlocks := O.2.2.2.2.2.1
  have hex : (cx_c C).exceptionTable.toList = [] := List.map_eq_nil_iff.mp O.2.2.2.2.2.2.2.2.1
  obtain ⟨st1, hrun, hend, hW, hsm⟩ := X.leaveThrown x (g := F0 (cx_m C) pc ls st) rfl rfl rfl (fun z hz => by rw [hex] at hz; cases hz)
  exact ⟨_, st1, .threw x, locs, hrun, hend, hW, hsm.weaken (fun _ h _ => h) hk hn, hl, w, E, ce, hH, h1, h2, h3, h4, hq⟩
end Rows2
