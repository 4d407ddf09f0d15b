/-! ===== A THROW: new E; dup; ldc; E(String); athrow, in a method without handlers ===== -/
/-- the four words of a throw that speak of the heap -/
def cd_h4 (c : Cond) : Bool := decide (c = .isRef (.static Bundle.tN "UNASSIGNED_STACK" Bundle.steD)) || decide (c = .isRef (.static Bundle.tN "SUPPRESSED_SENTINEL" Bundle.listD)) || decide (c = .laysStatic Bundle.tN "UNASSIGNED_STACK" Bundle.steD) || decide (c = .laysStatic Bundle.tN "SUPPRESSED_SENTINEL" Bundle.listD)
/-- the constructors E(String): they hand on to RuntimeException(String), by the entry 7, or 13 -/
def cd_ix : Nat → Nat
  | 3 => 13
  | _ => 7
def cd_bs : Nat → ByteArray
  | 3 => ⟨#[0x2a, 0x2b, 0xb7, 0x00, 0x0d, 0xb1]⟩
  | _ => ⟨#[0x2a, 0x2b, 0xb7, 0x00, 0x07, 0xb1]⟩
theorem cd_bs_d (E : Nat) : decode (cd_bs E) 0 = .ok (.aload_n 0, 1) ∧ decode (cd_bs E) 1 = .ok (.aload_n 1, 1) ∧ decode (cd_bs E) 2 = .ok (.invokespecial (cd_ix E), 3) ∧ decode (cd_bs E) 5 = .ok (.return_, 1) := by
  unfold cd_bs cd_ix
  split <;> decide +kernel
/-- the words of a throw of E but the link of its constructor -/
def cd_at (E : Nat) : List Cond := Bundle.throwableAtoms ++ Bundle.throwableSAtoms ++ Bundle.passSAtoms (cd_ex E) "java/lang/RuntimeException" (cd_ix E) (cd_bs E) ++ Bundle.chainSAtoms "java/lang/RuntimeException" ["java/lang/Exception"] ++
  [.instantiable (cd_ex E) 6, .selects (cd_ex E) Bundle.tFill0 Bundle.tFill0, .selects (cd_ex E) Bundle.tFill Bundle.tFill,
   .lays (cd_ex E) Bundle.tN "cause" "Ljava/lang/Throwable;", .lays (cd_ex E) Bundle.tN "stackTrace" Bundle.steD, .lays (cd_ex E) Bundle.tN "suppressedExceptions" Bundle.listD, .lays (cd_ex E) Bundle.tN "detailMessage" "Ljava/lang/String;",
   .isRef (.static Bundle.tN "UNASSIGNED_STACK" Bundle.steD), .isRef (.static Bundle.tN "SUPPRESSED_SENTINEL" Bundle.listD),
   .fieldLink Bundle.tN 198 Bundle.tN "backtrace" "Ljava/lang/Object;", .lays Bundle.tN Bundle.tN "backtrace" "Ljava/lang/Object;", .lays (cd_ex E) Bundle.tN "backtrace" "Ljava/lang/Object;"]
section Cth

set_option maxHeartbeats 4000000 in
/-- a made exception of class E is built and thrown out of the method; what is used of the library: its bundle of Throwable, its chain of constructors, the leaving -/
theorem cd_cth {p : Program} {l : Launch} {e : Env} {R : Room} {s : State} {m₀ : MethodId} {args : Array Value} {below : List Frame} {meth : Method} {c : Code} {V : State} {locs : List Loc} {cells slots : Nat} (X : Stand p l e R s m₀ args below meth c V locs cells slots) (hexec : p.tables.exec = Jvm.exec) (htr : e.platform.stackTraces = false) {own : String} {E ic : Nat}
    (hown : s.vm.findClass own = some m₀.cls) (hfit : Bundle.fit (cd_ex E) = true) (hml : (Cond.methodLink own ic (Bundle.initS (cd_ex E))).before args s = true) (h : ∀ z ∈ cd_at E, z.before args s = true) (hlocs : locs = [])
    {a : Addr} {cX : ClassId} {kX : Class} (hfX : s.vm.findClass (cd_ex E) = some cX) (hkX : s.vm.classes[cX]? = some kX) (hcell : V.heap[a]? = some (freshCell cX kX)) (hnew : s.heap.size ≤ a) {msg : Value} (hmsg : msg.isRef = true)
    {g : JFrame} (hg : g.method = m₀) (hsize : g.locals.size = c.maxLocals) (hlk : g.locked = none) (hen : g.entered = []) {rest : List Value} (hst : g.stack = msg :: .ref a :: .ref a :: rest)
    (hd6 : decode c.code g.pc = .ok (.invokespecial ic, 3)) (hd9 : decode c.code (g.pc + 3) = .ok (.athrow, 1)) (hout : ∀ x ∈ c.exceptionTable.toList, covers x (g.pc + 3) = false)
    (hR1 : 5 < R.frames) (hR2 : 2 * g.monitorRoom + ((Value.ref a :: rest).map fun v => v.category).sum + 81 ≤ R.locals) (hlocks : meth.locks = false) :
    ∃ U : State, Steps p.tables e below (V.setTop g) U ∧ U.status = .running ∧ Ended U below (.threw a) ∧ s.WarmedH U.vm ∧ s.sameButNew ({ U with vm := s.vm } : State) locs cells slots ∧ ∃ ce, U.heap[a]? = some ce ∧ ce.vm = .none ∧ ce.cls = cX := by
  subst hlocs
  have hp := X.admits.platform
  have hpl : e.platform.magicAccessors = ({} : Platform).magicAccessors := by rw [hp]
  have w : ∀ z, z ∈ cd_at E → z.holds args s none s [] = true := fun z hz => h z hz
  obtain ⟨T, Z0, L, -, Y⟩ := ThrowableC.of_atoms (args := args) (by rw [hp] : e.platform.frameOwnsMonitors = true) (by rw [hp] : e.platform.finalization = false) hpl (fun z hz => h z (by simp [cd_at, hz]))
  obtain ⟨Z, M, LZ, LM, hnZ⟩ := Init0T.ofS_atoms (args := args) hpl L Y (fun z hz => h z (by simp [cd_at, hz]))
  obtain ⟨P2, Ps, hlen, L2, hL, hm2, hsup2, hpass⟩ := Bundle.chainS (args := args) hpl hnZ ["java/lang/Exception"] "java/lang/RuntimeException" (by decide) (by decide) (fun z hz => h z (by simp [cd_at, hz]))
  obtain ⟨b0, b1, b2, b5⟩ := cd_bs_d E
  obtain ⟨P1, L1, hm1, hs1⟩ := PassC.ofS_atoms (args := args) (s := s) hpl (X := cd_ex E) (Y := "java/lang/RuntimeException") (Bundle.fit_spec hfit).1 (by decide) b0 b1 b2 b5 (fun z hz => h z (by simp [cd_at, hz]))
  have hsup1 : P1.sup = P2.m := Option.some.inj (hs1.symm.trans hm2)
  cases Option.some.inj (hfX.symm.trans (findClass_of_methodNamed hm1))
  obtain ⟨c1, k1, hc1, hk, hord, -, -, -⟩ := Cond.instantiable_spec (w (.instantiable (cd_ex E) 6) (by simp [cd_at]))
  cases Option.some.inj (hc1.symm.trans hfX)
  cases Option.some.inj (hkX.symm.trans hk)
  have sel : ∀ (y : MethodName) (mm : MethodId), s.methodNamed? y = some mm → (y.cls ≠ "java/lang/invoke/MethodHandle" ∧ y.cls ≠ "java/lang/invoke/VarHandle") → (Cond.selects (cd_ex E) y y).holds args s none s [] = true → selectMethod e.platform s.vm P1.m.cls mm = .method mm := by
    intro y mm hy hne hsl
    obtain ⟨c2, r2, m2, q1, q2, q3, q4, -⟩ := Cond.selects_spec hsl
    cases Option.some.inj (q1.symm.trans hfX)
    cases Option.some.inj (q2.symm.trans (State.methodFound?_of_named hy hne))
    cases Option.some.inj (q3.symm.trans hy)
    rw [Launch.admits_selectMethod X.admits]; exact q4
  obtain ⟨cS, hcS, hiS⟩ := Y.statics
  obtain ⟨u0, hu0⟩ := Cond.staticRefV Y.unassigned L.unassignedStatic L.statics hcS hiS (w (.isRef (.static Bundle.tN "UNASSIGNED_STACK" Bundle.steD)) (by simp [cd_at]))
  obtain ⟨u1, hu1⟩ := Cond.staticRefV Y.sentinel L.sentinelStatic L.statics hcS hiS (w (.isRef (.static Bundle.tN "SUPPRESSED_SENTINEL" Bundle.listD)) (by simp [cd_at]))
  obtain ⟨cB, iB, fB, hkB, hgB, haB, hsB, -, hnB, htB, hfB⟩ := Cond.ownField (t := .object "java/lang/Object") Y.found L.cls (by decide +kernel) (w (.fieldLink Bundle.tN 198 Bundle.tN "backtrace" "Ljava/lang/Object;") (by simp [cd_at])) (w (.lays Bundle.tN Bundle.tN "backtrace" "Ljava/lang/Object;") (by simp [cd_at])) e.platform hpl
  obtain ⟨cV, hcV, heV, -, hkV⟩ := X.same.2.2.2.2.2 T.aS cS hcS
  have hcV' : V.heap[T.aS]? = some cV := hcV
  have hunk : cV.vm ≠ .unknown := by
    rw [heV]
    intro hz
    have hz' : cS.vm = .unknown := hz
    rw [hz'] at hiS
    cases hiS
  have hneS : T.aS ≠ a := Nat.ne_of_lt (Nat.lt_of_lt_of_le (Array.getElem?_eq_some_iff.mp hcS).1 hnew)
  obtain ⟨iM, hfM⟩ := Y.msg
  obtain ⟨tyC, eC, gC, nC⟩ := Cond.laysAt hfX hk Y.cause (w (.lays (cd_ex E) Bundle.tN "cause" "Ljava/lang/Throwable;") (by simp [cd_at]))
  obtain ⟨tyS, eS, gS, nS⟩ := Cond.laysAt hfX hk Y.stack (w (.lays (cd_ex E) Bundle.tN "stackTrace" Bundle.steD) (by simp [cd_at]))
  obtain ⟨tyP, eP, gP, nP⟩ := Cond.laysAt hfX hk Y.supp (w (.lays (cd_ex E) Bundle.tN "suppressedExceptions" Bundle.listD) (by simp [cd_at]))
  obtain ⟨tyM, eM, gM, nM⟩ := Cond.laysAt hfX hk hfM (w (.lays (cd_ex E) Bundle.tN "detailMessage" "Ljava/lang/String;") (by simp [cd_at]))
  obtain ⟨tyB, eB, gB, nB⟩ := Cond.laysAt hfX hk hfB (w (.lays (cd_ex E) Bundle.tN "backtrace" "Ljava/lang/Object;") (by simp [cd_at]))
  have zC := Cond.laysApart gB gC nB nC (by rw [hnB, Y.causeName]; decide)
  have zS := Cond.laysApart gB gS nB nS (by rw [hnB, Y.stackName]; decide)
  have zP := Cond.laysApart gB gP nB nP (by rw [hnB, Y.suppName]; decide)
  have hskip : SkipFacts T e.platform s (fun u => u) u0 ((preparedCellV T.toThrowableT (freshCell P1.m.cls kX) a u0 u1).withEntry V.cur) :=
    ⟨{ ci198 := cB, i198 := iB, fBack := fB }, ⟨hkB, hgB, haB, hsB⟩, by
      have hd := fresh_default (c := P1.m.cls) tyB
      rw [htB] at hd
      simpa [preparedCellV, Cell.setSlot, Cell.withEntry, Array.getElem?_setIfInBounds, zC, zS, zP, zC.symm, zS.symm, zP.symm, defaultValue] using hd, fun _ _ => rfl⟩
  obtain ⟨tm, mC, cdC, kC, vm1, hnC, -, -, -, -, -, -, -, hW1, st1⟩ := Steps.initColdS (tb := p.tables) (e := e) (below := below) (s := s) (U := V) X.here hexec X.warmed hpl hown (t := Bundle.initS (cd_ex E)) rfl rfl (Bundle.fit_spec hfit).2 hml
    (h (.instanceMethod (Bundle.initS (cd_ex E))) (by simp [cd_at, Bundle.passSAtoms])) (bytes := cd_bs E) (maxL := 2) (h (.code (Bundle.initS (cd_ex E)) (cd_bs E) 2 none) (by simp [cd_at, Bundle.passSAtoms])) (f := g) hg (a := a) (msg := msg) (rest := .ref a :: rest) hst hd6
  cases Option.some.inj (hnC.symm.trans hm1)
  obtain ⟨vm2, X2, st2⟩ := (X.noted hW1).ctorMessageOffV hexec (g := { g with stack := .ref a :: rest }) hg hsize T L Z LZ M LM (P1 :: P2 :: Ps)
    (fun P hP => by
      rcases List.mem_cons.mp hP with rfl | hP
      · exact L1
      · rcases List.mem_cons.mp hP with rfl | hP
        · exact L2
        · exact hL P hP) ⟨hsup1, hsup2, hpass⟩ (u0 := u0) (sen := u1) (self := a) hmsg (cell := freshCell P1.m.cls kX) (cellS := cV)
    hcell (fun _ => by simp) (by simp) rfl rfl (sel Bundle.tFill0 _ Y.fill0 (by decide) (w _ (by simp [cd_at]))) (sel Bundle.tFill _ Y.fill (by decide) (w _ (by simp [cd_at]))) hcV' hneS hunk (by rw [hkV _ (fun z => by cases z)]; exact hu0) (by rw [hkV _ (fun z => by cases z)]; exact hu1)
    (Takes.of_laid hk hord tyC (by rw [Y.causeType]; rfl)) (Takes.of_laid hk hord tyS (by rw [Y.stackType]; exact fits_refV_array _ u0)) (Takes.of_laid hk hord tyP (by rw [Y.suppType]; exact fits_refV_object _ u1))
    (Takes.of_laid hk hord tyM (by rw [Y.msgType]; exact fits_refV_object _ ⟨msg, hmsg⟩)) Y.objLocals hskip htr [] hd6 (by simp only [List.length_cons, hlen]; exact hR1) (by simp only [List.length_cons, hlen]; exact hR2)
  obtain ⟨hwk, hrun, hend, hWU, hsame⟩ := X2.athrowLeaves hexec (g := { g with stack := .ref a :: rest, pc := g.pc + 3 }) hg hlk hen hout (a := a) (rest := rest) rfl hd9 hlocks
  have hlt : a < ((V.setVm vm1).setVm vm2).heap.size := (Array.getElem?_eq_some_iff.mp hcell).1
  refine ⟨_, st1 _ (fun acts => ?_), hrun, hend, hWU, hsame.weaken (fun z hz hz2 => ?_) (Nat.le_refl _) (Nat.le_refl _), _, heapAt_setCell_self (s := (V.setVm vm1).setVm vm2) (plainBareV T.toThrowableT (freshCell P1.m.cls kX) a u0 u1 msg) hlt, rfl, rfl⟩
  · rw [doInvoke_state]
    exact st2 _ hwk
  · exfalso
    have hb : z.base = a := by
      simp only [List.nil_append, List.mem_cons, List.not_mem_nil, or_false] at hz
      rcases hz with rfl | rfl | rfl | rfl | rfl <;> rfl
    rw [hb] at hz2
    exact Nat.not_lt.mpr hnew hz2
end Cth
def cd_Ew (E : Nat) : Prop := ∀ c ∈ cd_at E, cd_h4 c = true ∨ (c ∈ lw_tbl ∧ cd_gw c = true)
theorem cd_Zr.lays {G : cd_Gl} {n d : String} {s : State} (h : cd_Zr G n d s) (h0 : cd_H0 G s.heap) (a : Array Value) : (Cond.laysStatic Bundle.tN n d).before a s = true := by
  obtain ⟨c, k, i, f, b, cell, v, h1, h2, h3, h4, h5, h6, h7, h8, h9, h10, h11⟩ := h
  have hb : b < G.2.2.size := (Array.getElem?_eq_some_iff.mp h5).1
  have hc : s.heap[b]? = some cell := by rw [h0.2.1 b hb]; exact h5
  simp [Cond.before, Cond.holds, Cond.value, h1, h2, h3, h4, hc, h6, h7, h8, h9]
theorem cd_Zr.ref {G : cd_Gl} {n d : String} {s : State} (h : cd_Zr G n d s) (h0 : cd_H0 G s.heap) (a : Array Value) : (Cond.isRef (.static Bundle.tN n d)).before a s = true := by
  obtain ⟨c, k, i, f, b, cell, v, h1, h2, h3, h4, h5, h6, h7, h8, h9, h10, h11⟩ := h
  have hb : b < G.2.2.size := (Array.getElem?_eq_some_iff.mp h5).1
  have hc : s.heap[b]? = some cell := by rw [h0.2.1 b hb]; exact h5
  have hv : (Term.static Bundle.tN n d).eval a s none [] s = some v := by
    simp [Term.eval, State.fieldNamed?, h2, h3, h4, hc, h6, h10]
  cases v <;> first | (simp [Cond.before, Cond.holds, Cond.value, hv]; done) | (simp [Value.isRef] at h11; done)
section Thr
variable {G : cd_Gl} {l : Launch} {C : cd_Cx} {k n : Nat} {w : cd_Wd} {pc : Nat} {lv : List (Option Value)} {rest : List Value} {y : MethodName} {cc : ByteArray} {nL : Nat} {ret : Option FieldType} {R : Room}
theorem cd_atoms (O : cd_Ok G y cc nL ret [] R C) {E : Nat} (hE : cd_Ew E) : ∀ c ∈ cd_at E, c.before (cx_a C) (cx_s C) = true := by
  have hz := O.2.2.2.2.2.2.2.1
  have h0 := O.2.2.2.2.2.2.2.2.2.2
  intro c hc
  rcases hE c hc with h | h
  · simp only [cd_h4, Bool.or_eq_true, decide_eq_true_eq] at h
    rcases h with ((rfl | rfl) | rfl) | rfl
    · exact hz.2.2.2.2.1.ref h0 _
    · exact hz.2.2.2.2.2.1.ref h0 _
    · exact hz.2.2.2.2.1.lays h0 _
    · exact hz.2.2.2.2.2.1.lays h0 _
  · exact cd_word O h
/-- the same point of the same frame, its beginning taken anew here -/
theorem cd_anew {p : Program} {e : Env} {s : State} {m : MethodId} {args : Array Value} {below : List Frame} {meth : Method} {c : Code} {T : State} {locs : List Loc} (X : Stand p l e R s m args below meth c T locs k n) {k' n' : Nat} (hc : k + k' ≤ R.cells) (hs : n + n' ≤ R.slots) :
    Stand p l e { frames := R.frames, cells := k', slots := n', locals := R.locals } ((T.setVm s.vm).setFrames (.invoking m args :: below)) m args below meth c T [] 0 0 := by
  obtain ⟨g₀, hfr⟩ := X.frames_eq
  have hcur : T.cur < T.threads.size := State.cur_lt_of_frames hfr
  have hcur' : (T.setVm s.vm).cur < (T.setVm s.vm).threads.size := hcur
  have hF : ((T.setVm s.vm).setFrames (.invoking m args :: below)).frames = .invoking m args :: below := State.frames_setFrames _ hcur'
  have hlim : e.platform.stackLimits ((T.setVm s.vm).setFrames (.invoking m args :: below)).me = e.platform.stackLimits s.me := by
    rw [State.stackLimits_setFrames]; exact X.limits
  have hby : ((T.setVm s.vm).setFrames (.invoking m args :: below)).me.stackBytes = s.me.stackBytes := by
    rw [State.stackBytes_setFrames]; exact X.bytes
  have hlo : ((T.setVm s.vm).setFrames (.invoking m args :: below)).localsInUse = s.localsInUse := by
    unfold State.localsInUse
    rw [hF, X.frames]
    rfl
  obtain ⟨t, ht, -⟩ := State.frames_cons hF
  refine ⟨X.admits, X.cas, X.clock, hF, ?_, ?_, X.method, X.code, X.here, X.tail, ?_, ?_, ?_, ?_⟩
  · have hr := X.room
    have hb := X.book
    have h1 := X.heapSize
    have h2 := X.used
    simp only [State.hasRoom, Bool.and_eq_true, decide_eq_true_eq] at hr ⊢
    obtain ⟨⟨⟨⟨r1, r2, r3, r4, r5, r6⟩, r7⟩, r8⟩, r9⟩ := hr
    have hFl : ((T.setVm s.vm).setFrames (.invoking m args :: below)).frames.length = s.frames.length := by rw [hF, X.frames]
    refine ⟨⟨⟨⟨?_, ?_, ?_, ?_, ?_, ?_⟩, ?_⟩, ?_⟩, ?_⟩
    · rw [hlo]; exact r1
    · rw [hFl]; exact r2
    · rw [hFl, hlim]; exact r3
    · rw [hlo]; exact r4
    · rw [hlo, hlim]; exact r5
    · rw [hby]; exact r6
    · show T.heap.size + k' ≤ _
      omega
    · show T.slotsUsed + n' ≤ _
      omega
    · exact hb
  · have := X.hears
    cases below with
    | nil => exact this
    | cons f r => cases f <;> exact this
  · exact X.warmed
  · rw [hlim]; exact X.limits
  · rw [hby]; exact X.bytes
  · have h := (State.sameButNew.refl ((T.setVm s.vm).setFrames (.invoking m args :: below)) ht).setFrames T.frames (State.cur_lt_of_frames hF)
    rw [State.setFrames_setFrames] at h
    have e1 : (T.setVm s.vm).setFrames T.frames = T.setVm s.vm := by
      obtain ⟨t', ht', -⟩ := State.frames_cons hfr
      exact State.setFrames_self (s := T.setVm s.vm) ht'
    rw [e1] at h
    exact h
theorem g_throw (O : cd_Ok G y cc nL ret [] R C) (hst : l.stackTraces = false) {mc ms E ik is ic : Nat} {tx : String} {Q : cd_Out → cd_Wd → Prop} (hE : cd_Ew E) (hfit : Bundle.fit (cd_ex E) = true)
    (hk : Cond.classLink y.cls ik (cd_ex E) ∈ lw_tbl ∧ cd_gw (Cond.classLink y.cls ik (cd_ex E)) = true) (hi : Cond.instantiable (cd_ex E) 6 ∈ lw_tbl ∧ cd_gw (Cond.instantiable (cd_ex E) 6) = true) (hini : Cond.initialized (cd_ex E) ∈ lw_tbl ∧ cd_gw (Cond.initialized (cd_ex E)) = true) (hm : Cond.methodLink y.cls ic (Bundle.initS (cd_ex E)) ∈ lw_tbl ∧ cd_gw (Cond.methodLink y.cls ic (Bundle.initS (cd_ex E))) = true) (hs : (y.cls, is, tx) ∈ cd_str)
    (d0 : decode cc pc = .ok (.new ik, 3)) (d3 : decode cc (pc + 3) = .ok (.dup, 1)) (d4 : decode cc (pc + 4) = .ok (.ldc is, 2)) (d6 : decode cc (pc + 6) = .ok (.invokespecial ic, 3)) (d9 : decode cc (pc + 9) = .ok (.athrow, 1)) (hlv : lv.length = nL)
    (hR1 : 5 < R.frames) (hR2 : (rest.map fun v => v.category).sum + 1 + 81 ≤ R.locals) (hR3 : k + 1 ≤ R.cells) (hR4 : n + 6 ≤ R.slots) (hmc : k + 1 ≤ mc) (hms : n + 6 ≤ ms) (hq : Q (.inr E) w) :
    cd_Go G l C (cd_MQ G (cx_s C) (cx_b C) mc ms Q) k n w pc lv rest := by
  intro H locs ls a1 b1 c1 T0 hT0 X0
  obtain ⟨o1, o2, o3, o4, o5, o6, o7, o8, o9, o10, o11⟩ := id O
  have Y0 := cd_anew X0 (k' := 1) (n' := 6) (by rw [o10]; exact hR3) (by rw [o10]; exact hR4)
  generalize hs' : (T0.setVm (cx_s C).vm).setFrames (.invoking (cx_m C) (cx_a C) :: cx_b C) = s' at Y0
  have hvm : s'.vm = (cx_s C).vm := by rw [← hs']; rfl
  have hhp : s'.heap = H := by rw [← hs']; exact hT0
  have hW0 : (cx_s C).WarmedH s'.vm := by rw [hvm]; exact State.WarmedH.refl _
  have O' : cd_Ok G y cc nL ret [] { frames := R.frames, cells := 1, slots := 6, locals := R.locals } (cx_p C, cx_e C, { frames := (cx_R C).frames, cells := 1, slots := 6, locals := (cx_R C).locals }, s', cx_m C, cx_a C, cx_b C, cx_h C, cx_c C) :=
    ⟨o1, o2, o3, by show s'.vm.findClass _ = _; rw [hvm]; exact o4, o5, o6, o7, o8.warm hW0, o9, by show Room.mk _ _ _ _ = _; rw [o10], by show cd_H0 G s'.heap; rw [hhp]; exact a1.h0⟩
  obtain ⟨cC, kC0, hfc, -⟩ := Cond.instantiable_spec (cd_word O' hi)
  obtain ⟨sa, hsa⟩ := O'.2.2.2.2.2.2.2.1.2.2.2.1 _ hs
  have hge : s'.heap.size ≤ H.size := by rw [hhp]; exact Nat.le_refl _
  obtain ⟨U, st, hrun, hend, hW, hsame, ce, hce, hown⟩ : ∃ U : State, Steps (cx_p C).tables (cx_e C) (cx_b C) (T0.setTop (F0 (cx_m C) pc ls rest)) U ∧ U.status = .running ∧ Ended U (cx_b C) (.threw H.size) ∧ s'.WarmedH U.vm ∧ s'.sameButNew ({ U with vm := s'.vm } : State) [] 1 6 ∧ ∃ ce, U.heap[H.size]? = some ce ∧ ce.vm = .none ∧ ce.cls = cC := by
    refine (W.newcK (Q := fun U => U.status = .running ∧ Ended U (cx_b C) (.threw H.size) ∧ s'.WarmedH U.vm ∧ s'.sameButNew ({ U with vm := s'.vm } : State) [] 1 6 ∧ ∃ ce, U.heap[H.size]? = some ce ∧ ce.vm = .none ∧ ce.cls = cC) (g := F0 (cx_m C) pc ls rest) o1 o2 O'.2.2.2.1 (cd_word O' hk) (cd_word O' hi) (cd_word O' hini) rfl d0 (Nat.le_refl 1) (Nat.le_refl 6) hfc rfl fun H1 kC hkC e1 z1 q1 => ?_) T0 hT0 Y0
    refine lv_dup o1 o2 d3 rfl ?_
    refine va_ldcS o1 o2 O'.2.2.2.1 hsa d4 ?_
    intro T hT X
    have htr : (cx_e C).platform.stackTraces = false := (show (cx_e C).platform.stackTraces = l.stackTraces by rw [X.admits.platform]).trans hst
    have hex : (cx_c C).exceptionTable.toList = [] := List.map_eq_nil_iff.mp o9
    have hsz : ls.size = (cx_c C).maxLocals := by rw [c1.1, hlv, o3]
    exact cd_cth X o1 htr O'.2.2.2.1 (E := E) (ic := ic) hfit (cd_word O' hm) (cd_atoms O' hE) rfl hfc hkC (a := H.size) (by rw [hT]; exact e1) hge (msg := .ref sa) rfl
      (g := F0 (cx_m C) (pc + 6) ls (.ref sa :: .ref H.size :: .ref H.size :: rest)) rfl hsz rfl rfl (rest := rest) rfl (by rw [o2]; exact d6) (by rw [o2]; exact d9) (fun x hx => by rw [hex] at hx; cases hx) (by show _ < (cx_R C).frames; rw [o10]; exact hR1) (by
        show 2 * 0 + ((Value.ref H.size :: rest).map fun v => v.category).sum + 81 ≤ (cx_R C).locals
        rw [o10, List.map_cons, List.sum_cons]
        have h1 : (Value.ref H.size).category = 1 := rfl
        omega) o6
  have hsz1 : H.size ≤ U.heap.size ∧ ∀ q, q < H.size → U.heap[q]? = H[q]? := by
    obtain ⟨-, h2, -, -, -, h6⟩ := hsame
    rw [hhp] at h2 h6
    refine ⟨h2, fun q hq => ?_⟩
    obtain ⟨c', g1, g2, g3, g4⟩ := h6 q _ (Array.getElem?_eq_getElem hq)
    have hss : c'.slots = H[q].slots := Array.ext_getElem? fun i => g4 i (fun h => by cases h)
    have hcc : c' = H[q] := by rw [hss] at g2; exact g2
    have g1' : U.heap[q]? = some c' := g1
    rw [g1', hcc, Array.getElem?_eq_getElem hq]
  have hsz2 : U.heap.size ≤ H.size + 1 := by
    obtain ⟨-, -, h3, -⟩ := hsame
    rw [hhp] at h3
    exact h3
  refine ⟨U, st, .threw H.size, locs, hrun, hend, ?_, ?_, b1, w, E, ce, a1.grow hsz1.1 hsz1.2 (fun q c hq hc => ?_), hce, hown.1, a1.1, ?_, hq⟩
  · exact State.WarmedH.trans hW0 hW
  · have h9 : (T0.setVm (cx_s C).vm).sameButNew ({ U with vm := (cx_s C).vm } : State) [] 1 6 := by
      rw [hvm, ← hs'] at hsame
      obtain ⟨g1, g2⟩ := hsame
      refine ⟨?_, g2⟩
      rw [State.setFrames_setFrames] at g1
      exact g1
    have h8 := X0.same.trans h9
    rw [List.append_nil] at h8
    exact h8.weaken (fun _ h _ => h) hmc hms
  · have hlt := (Array.getElem?_eq_some_iff.mp hc).1
    have : q = H.size := by omega
    subst this
    rw [hce] at hc
    cases hc
    rw [hown.1]; rfl
  · rw [hown.2, ← hvm]; exact hfc
theorem cd_ldcSW {p : Program} {e : Env} {R : Room} {s : State} {m : MethodId} {args : Array Value} {below : List Frame} {meth : Method} {c : Code} {H : Heap} {locs : List Loc} {cells slots : Nat} {Q : State → Prop} {cc : ByteArray} {pc : Nat} {ls : Array Slot} {rest : List Value} (hexec : p.tables.exec = Jvm.exec) (hb : c.code = cc) {own tx : String} {index q : Nat} (hown : s.vm.findClass own = some m.cls) (hZ : vk_R own index tx q s) (hdg : decode cc pc = .ok (.ldc_w index, 3))
    (k : W p l e R s m args below meth c H locs cells slots Q (F0 m (pc + 3) ls (.ref q :: rest))) : W p l e R s m args below meth c H locs cells slots Q (F0 m pc ls rest) := by
  intro T hT X
  obtain ⟨t, a1, b1⟩ := k T hT X
  exact ⟨t, X.ldcStringW hexec hown (text := tx) (a := q) hZ.1 hZ.2 (g := F0 m pc ls rest) rfl (by rw [hb]; exact hdg) t a1, b1⟩
theorem g_throwW (O : cd_Ok G y cc nL ret [] R C) (hst : l.stackTraces = false) {mc ms E ik is ic : Nat} {tx : String} {Q : cd_Out → cd_Wd → Prop} (hE : cd_Ew E) (hfit : Bundle.fit (cd_ex E) = true)
    (hk : Cond.classLink y.cls ik (cd_ex E) ∈ lw_tbl ∧ cd_gw (Cond.classLink y.cls ik (cd_ex E)) = true) (hi : Cond.instantiable (cd_ex E) 6 ∈ lw_tbl ∧ cd_gw (Cond.instantiable (cd_ex E) 6) = true) (hini : Cond.initialized (cd_ex E) ∈ lw_tbl ∧ cd_gw (Cond.initialized (cd_ex E)) = true) (hm : Cond.methodLink y.cls ic (Bundle.initS (cd_ex E)) ∈ lw_tbl ∧ cd_gw (Cond.methodLink y.cls ic (Bundle.initS (cd_ex E))) = true) (hs : (y.cls, is, tx) ∈ cd_str)
    (d0 : decode cc pc = .ok (.new ik, 3)) (d3 : decode cc (pc + 3) = .ok (.dup, 1)) (d4 : decode cc (pc + 4) = .ok (.ldc_w is, 3)) (d6 : decode cc (pc + 7) = .ok (.invokespecial ic, 3)) (d9 : decode cc (pc + 10) = .ok (.athrow, 1)) (hlv : lv.length = nL)
    (hR1 : 5 < R.frames) (hR2 : (rest.map fun v => v.category).sum + 1 + 81 ≤ R.locals) (hR3 : k + 1 ≤ R.cells) (hR4 : n + 6 ≤ R.slots) (hmc : k + 1 ≤ mc) (hms : n + 6 ≤ ms) (hq : Q (.inr E) w) :
    cd_Go G l C (cd_MQ G (cx_s C) (cx_b C) mc ms Q) k n w pc lv rest := by
  intro H locs ls a1 b1 c1 T0 hT0 X0
  obtain ⟨o1, o2, o3, o4, o5, o6, o7, o8, o9, o10, o11⟩ := id O
  have Y0 := cd_anew X0 (k' := 1) (n' := 6) (by rw [o10]; exact hR3) (by rw [o10]; exact hR4)
  generalize hs' : (T0.setVm (cx_s C).vm).setFrames (.invoking (cx_m C) (cx_a C) :: cx_b C) = s' at Y0
  have hvm : s'.vm = (cx_s C).vm := by rw [← hs']; rfl
  have hhp : s'.heap = H := by rw [← hs']; exact hT0
  have hW0 : (cx_s C).WarmedH s'.vm := by rw [hvm]; exact State.WarmedH.refl _
  have O' : cd_Ok G y cc nL ret [] { frames := R.frames, cells := 1, slots := 6, locals := R.locals } (cx_p C, cx_e C, { frames := (cx_R C).frames, cells := 1, slots := 6, locals := (cx_R C).locals }, s', cx_m C, cx_a C, cx_b C, cx_h C, cx_c C) :=
    ⟨o1, o2, o3, by show s'.vm.findClass _ = _; rw [hvm]; exact o4, o5, o6, o7, o8.warm hW0, o9, by show Room.mk _ _ _ _ = _; rw [o10], by show cd_H0 G s'.heap; rw [hhp]; exact a1.h0⟩
  obtain ⟨cC, kC0, hfc, -⟩ := Cond.instantiable_spec (cd_word O' hi)
  obtain ⟨sa, hsa⟩ := O'.2.2.2.2.2.2.2.1.2.2.2.1 _ hs
  have hge : s'.heap.size ≤ H.size := by rw [hhp]; exact Nat.le_refl _
  obtain ⟨U, st, hrun, hend, hW, hsame, ce, hce, hown⟩ : ∃ U : State, Steps (cx_p C).tables (cx_e C) (cx_b C) (T0.setTop (F0 (cx_m C) pc ls rest)) U ∧ U.status = .running ∧ Ended U (cx_b C) (.threw H.size) ∧ s'.WarmedH U.vm ∧ s'.sameButNew ({ U with vm := s'.vm } : State) [] 1 6 ∧ ∃ ce, U.heap[H.size]? = some ce ∧ ce.vm = .none ∧ ce.cls = cC := by
    refine (W.newcK (Q := fun U => U.status = .running ∧ Ended U (cx_b C) (.threw H.size) ∧ s'.WarmedH U.vm ∧ s'.sameButNew ({ U with vm := s'.vm } : State) [] 1 6 ∧ ∃ ce, U.heap[H.size]? = some ce ∧ ce.vm = .none ∧ ce.cls = cC) (g := F0 (cx_m C) pc ls rest) o1 o2 O'.2.2.2.1 (cd_word O' hk) (cd_word O' hi) (cd_word O' hini) rfl d0 (Nat.le_refl 1) (Nat.le_refl 6) hfc rfl fun H1 kC hkC e1 z1 q1 => ?_) T0 hT0 Y0
    refine lv_dup o1 o2 d3 rfl ?_
    refine cd_ldcSW o1 o2 O'.2.2.2.1 hsa d4 ?_
    intro T hT X
    have htr : (cx_e C).platform.stackTraces = false := (show (cx_e C).platform.stackTraces = l.stackTraces by rw [X.admits.platform]).trans hst
    have hex : (cx_c C).exceptionTable.toList = [] := List.map_eq_nil_iff.mp o9
    have hsz : ls.size = (cx_c C).maxLocals := by rw [c1.1, hlv, o3]
    exact cd_cth X o1 htr O'.2.2.2.1 (E := E) (ic := ic) hfit (cd_word O' hm) (cd_atoms O' hE) rfl hfc hkC (a := H.size) (by rw [hT]; exact e1) hge (msg := .ref sa) rfl
      (g := F0 (cx_m C) (pc + 7) ls (.ref sa :: .ref H.size :: .ref H.size :: rest)) rfl hsz rfl rfl (rest := rest) rfl (by rw [o2]; exact d6) (by rw [o2]; exact d9) (fun x hx => by rw [hex] at hx; cases hx) (by show _ < (cx_R C).frames; rw [o10]; exact hR1) (by
        show 2 * 0 + ((Value.ref H.size :: rest).map fun v => v.category).sum + 81 ≤ (cx_R C).locals
        rw [o10, List.map_cons, List.sum_cons]
        have h1 : (Value.ref H.size).category = 1 := rfl
        omega) o6
  have hsz1 : H.size ≤ U.heap.size ∧ ∀ q, q < H.size → U.heap[q]? = H[q]? := by
    obtain ⟨-, h2, -, -, -, h6⟩ := hsame
    rw [hhp] at h2 h6
    refine ⟨h2, fun q hq => ?_⟩
    obtain ⟨c', g1, g2, g3, g4⟩ := h6 q _ (Array.getElem?_eq_getElem hq)
    have hss : c'.slots = H[q].slots := Array.ext_getElem? fun i => g4 i (fun h => by cases h)
    have hcc : c' = H[q] := by rw [hss] at g2; exact g2
    have g1' : U.heap[q]? = some c' := g1
    rw [g1', hcc, Array.getElem?_eq_getElem hq]
  have hsz2 : U.heap.size ≤ H.size + 1 := by
    obtain ⟨-, -, h3, -⟩ := hsame
    rw [hhp] at h3
    exact h3
  refine ⟨U, st, .threw H.size, locs, hrun, hend, ?_, ?_, b1, w, E, ce, a1.grow hsz1.1 hsz1.2 (fun q c hq hc => ?_), hce, hown.1, a1.1, ?_, hq⟩
  · exact State.WarmedH.trans hW0 hW
  · have h9 : (T0.setVm (cx_s C).vm).sameButNew ({ U with vm := (cx_s C).vm } : State) [] 1 6 := by
      rw [hvm, ← hs'] at hsame
      obtain ⟨g1, g2⟩ := hsame
      refine ⟨?_, g2⟩
      rw [State.setFrames_setFrames] at g1
      exact g1
    have h8 := X0.same.trans h9
    rw [List.append_nil] at h8
    exact h8.weaken (fun _ h _ => h) hmc hms
  · have hlt := (Array.getElem?_eq_some_iff.mp hc).1
    have : q = H.size := by omega
    subst this
    rw [hce] at hc
    cases hc
    rw [hown.1]; rfl
  · rw [hown.2, ← hvm]; exact hfc
end Thr
/-! ===== A CATCH: the search through the table of handlers ===== -/
def cd_cov (z : Nat × Nat × Nat × Nat) (pc : Nat) : Bool := decide (z.1 ≤ pc) && decide (pc < z.2.1)
def cd_Sk (pl : Platform) (s0 : State) (d : ClassId) (pc : Nat) (th : ClassId) (hp : Nat) : List (Nat × Nat × Nat × Nat) → Prop
  | [] => False
  | z :: t => (cd_cov z pc = false ∧ cd_Sk pl s0 d pc th hp t) ∨ (cd_cov z pc = true ∧ z.2.2.2 ≠ 0 ∧ ∃ c, s0.vm.ClassLinks pl d z.2.2.2 c ∧ ((s0.vm.assignable th c = true ∧ z.2.2.1 = hp) ∨ (s0.vm.assignable th c = false ∧ cd_Sk pl s0 d pc th hp t)))
theorem cd_seek {e : Env} {s0 : State} {f : JFrame} {x hp : Nat} {ce : Cell} (hobj : ∀ k, ce.vm ≠ .statics k) (hk0 : ∃ k, s0.vm.classes[ce.cls]? = some k) :
    ∀ (tb : List ExceptionTableEntry) (S : State), s0.WarmedH S.vm → S.heap[x]? = some ce → cd_Sk e.platform s0 f.method.cls f.pc ce.cls hp (tb.map fun h => (h.startPc, h.endPc, h.handlerPc, h.catchType)) →
      ∃ vm', s0.WarmedH vm' ∧ ∀ (Q : Handler → Pre) (E : CtlPost) (d : Bool) (acts : List Action), wp (findHandler.go f x tb) Q E e d acts S ↔ Q (.found hp) d acts (S.setVm vm') := by
  obtain ⟨k0, hk0⟩ := hk0
  intro tb
  induction tb with
  | nil => intro S _ _ h; exact h.elim
  | cons z t ih =>
    intro S hW hcell h
    rcases h with ⟨hc, h⟩ | ⟨hc, hz0, c, hl, h⟩
    · obtain ⟨vm', hW', hq⟩ := ih S hW hcell h
      exact ⟨vm', hW', fun Q E d acts => (W.findHandler_go_skip hc).trans (hq Q E d acts)⟩
    · have hcov : covers z f.pc = true := hc
      simp only [covers] at hcov
      obtain ⟨dk, _, _, kt, hd, _, _, _, _, hkt, _, hopen⟩ := hl.here
      have hWn := hW.noted hd hopen (State.rightAt_cls hl)
      obtain ⟨ha, ht⟩ := (resolveClass_links e.toSetting (hW.classLinks hl)).op (op := VmOp.resolveClass f.method.cls z.catchType) rfl
      obtain ⟨k1, hk1, -⟩ := hWn.alike.2.2 _ _ hk0
      obtain ⟨k2, hk2, -⟩ := hWn.alike.2.2 _ _ hkt
      have hz0' : ¬ z.catchType = 0 := hz0
      rcases h with ⟨hfit, hpp⟩ | ⟨hno, h⟩
      · have hfit' : (S.vm.noted f.method.cls z.catchType (.cls c)).assignable ce.cls c = true := by rw [hWn.alike.assignable]; exact hfit
        refine ⟨_, hWn, fun Q E d acts => ?_⟩
        rw [← hpp]
        simp [findHandler.go, hcov, hz0', ha, ht, hcell, hobj, hk1, hk2, hfit', VmOp.dirties, VmOp.acts]
      · have hno' : (S.vm.noted f.method.cls z.catchType (.cls c)).assignable ce.cls c = false := by rw [hWn.alike.assignable]; exact hno
        obtain ⟨vm', hW', hq⟩ := ih (S.setVm (S.vm.noted f.method.cls z.catchType (.cls c))) hWn hcell h
        refine ⟨vm', hW', fun Q E d acts => ?_⟩
        refine Iff.trans ?_ (hq Q E d acts)
        simp [findHandler.go, hcov, hz0', ha, ht, hcell, hobj, hk1, hk2, hno', VmOp.dirties, VmOp.acts]
section Catch
variable {G : cd_Gl} {l : Launch} {C : cd_Cx} {Q : State → Prop} {k n : Nat} {w : cd_Wd} {pc : Nat} {lv : List (Option Value)} {y : MethodName} {cc : ByteArray} {nL : Nat} {ret : Option FieldType} {ex : List (Nat × Nat × Nat × Nat)} {R : Room}
/-- one step: the frame goes on at the handler -/
theorem cd_caught {tb : Tables} {e : Env} {s target : State} {g : JFrame} {c : Code} {below : List Frame} {x hp : Nat} {vm' : Vm} (h : At s g.method c below)
    (hf : ∀ (Q : Handler → Pre) (E : CtlPost) (d : Bool) (acts : List Action), wp (findHandler g x) Q E e d acts ((s.setTop g).pushFrame (.throwing x)) ↔ Q (.found hp) d acts (((s.setTop g).pushFrame (.throwing x)).setVm vm'))
    (hr : Steps tb e below ((s.setVm vm').setTop { g with pc := hp, stack := [.ref x] }) target) : Steps tb e below ((s.setTop g).pushFrame (.throwing x)) target := by
  obtain ⟨hgo, hw⟩ := h.throwing x
  refine Steps.head hgo hw ?_
  rw [stepThread_throwing (frames_entered h.top _)]
  have hst : (stepThrowing e ((s.setTop g).pushFrame (.throwing x)) x (.java g :: s.frames.tail)).1 = (((s.setTop g).pushFrame (.throwing x)).setVm vm').setFrames (.java { g with pc := hp, stack := [.ref x] } :: s.frames.tail) := by
    simp only [stepThrowing, searchFrame, vmDo]
    generalize hres : Sem.go _ e false [] ((s.setTop g).pushFrame (.throwing x)) = res
    obtain ⟨as, rfl, ha⟩ := Sem.eq_ok_of hres (a := Handler.found hp) (s' := ((s.setTop g).pushFrame (.throwing x)).setVm vm') (acts' := []) (by simp [hf _ _ _ _])
    rfl
  rw [hst]
  obtain ⟨g₀, hg⟩ := Option.isSome_iff_exists.mp h.top
  obtain ⟨r, hfr⟩ := State.topJava?_eq_some.mp hg
  have hfr' : (s.setVm vm').frames = .java g₀ :: r := hfr
  rw [State.setTop_of_frames _ hfr'] at hr
  have e1 : (((s.setTop g).pushFrame (.throwing x)).setVm vm').setFrames (.java { g with pc := hp, stack := [.ref x] } :: s.frames.tail) = (s.setVm vm').setFrames (.java { g with pc := hp, stack := [.ref x] } :: r) := by
    rw [hfr, List.tail_cons, State.pushFrame, State.setTop_of_frames _ hfr]
    show (((s.setFrames _).setFrames _).setVm vm').setFrames _ = _
    rw [State.setFrames_setFrames]
    show ((s.setVm vm').setFrames _).setFrames _ = _
    rw [State.setFrames_setFrames]
  rw [e1]
  exact hr
/-- caught: the way through the table -/
theorem gx_catch (O : cd_Ok G y cc nL ret ex R C) {E : Nat} (hp : Nat) (hsk : ∀ th, (cx_s C).vm.findClass (cd_ex E) = some th → ∀ pl : Platform, pl.magicAccessors = ({} : Platform).magicAccessors → cd_Sk pl (cx_s C) (cx_m C).cls pc th hp ex)
    (h : ∀ x, cd_Go G l C Q k n w hp lv [.ref x]) : cd_Gx G l C Q k n w pc lv E := by
  intro T locs ls st x ce hH hl hls h1 h2 h3 h4 X
  have hpl : (cx_e C).platform.magicAccessors = ({} : Platform).magicAccessors := by rw [X.admits.platform]
  obtain ⟨k9, h9, -⟩ := Vm.findClass_spec h4
  have hsk' := hsk ce.cls h4 _ hpl
  rw [← O.2.2.2.2.2.2.2.2.1] at hsk'
  obtain ⟨vm', hW', hq⟩ := cd_seek (e := cx_e C) (f := F0 (cx_m C) pc ls st) (fun z hz => by rw [h2] at hz; cases hz) ⟨k9, h9⟩ (cx_c C).exceptionTable.toList ((T.setTop (F0 (cx_m C) pc ls st)).pushFrame (.throwing x)) (by rw [Stand.throwing_vm]; exact X.warmed) (by rw [Stand.throwing_heap]; exact h1) hsk'
  obtain ⟨t, s1, s2⟩ := h x T.heap locs ls hH hl hls (T.setVm vm') rfl (X.noted hW')
  refine ⟨t, cd_caught (g := F0 (cx_m C) pc ls st) X.here (fun Q E d acts => ?_) s1, s2⟩
  rw [W.findHandler_eq (meth := cx_h C) (code := cx_c C) (by rw [Stand.throwing_vm]; exact X.method') X.code]
  exact hq Q E d acts
/-- the steps of a search, out of the words -/
theorem sk_skip {pl : Platform} {s0 : State} {d : ClassId} {th : ClassId} {hp : Nat} {z : Nat × Nat × Nat × Nat} {t : List (Nat × Nat × Nat × Nat)} (hc : cd_cov z pc = false) (h : cd_Sk pl s0 d pc th hp t) : cd_Sk pl s0 d pc th hp (z :: t) := Or.inl ⟨hc, h⟩
theorem sk_hit {pl : Platform} (hpl : pl.magicAccessors = ({} : Platform).magicAccessors) (O : cd_Ok G y cc nL ret ex R C) {th : ClassId} {nm : String} (hth : (cx_s C).vm.findClass nm = some th) {z : Nat × Nat × Nat × Nat} {t : List (Nat × Nat × Nat × Nat)} (hc : cd_cov z pc = true) (h0 : z.2.2.2 ≠ 0)
    (hl : Cond.classLink y.cls z.2.2.2 nm ∈ lw_tbl ∧ cd_gw (Cond.classLink y.cls z.2.2.2 nm) = true) (hk : Cond.castable nm nm ∈ lw_tbl ∧ cd_gw (Cond.castable nm nm) = true) : cd_Sk pl (cx_s C) (cx_m C).cls pc th z.2.2.1 (z :: t) := by
  obtain ⟨c5, hc5, hcl5⟩ := Cond.classLink_spec O.2.2.2.1 (cd_word O hl) pl hpl
  obtain ⟨c3, c4, hc3, hc4, hasg⟩ := Cond.castable_spec (cd_word O hk)
  cases Option.some.inj (hc3.symm.trans hth)
  cases Option.some.inj (hc4.symm.trans hc5)
  exact Or.inr ⟨hc, h0, _, hcl5, Or.inl ⟨hasg, rfl⟩⟩
theorem sk_pass {pl : Platform} (hpl : pl.magicAccessors = ({} : Platform).magicAccessors) (O : cd_Ok G y cc nL ret ex R C) {th : ClassId} {hp : Nat} {nm nm' : String} (hth : (cx_s C).vm.findClass nm = some th) {z : Nat × Nat × Nat × Nat} {t : List (Nat × Nat × Nat × Nat)} (hc : cd_cov z pc = true) (h0 : z.2.2.2 ≠ 0)
    (hl : Cond.classLink y.cls z.2.2.2 nm' ∈ lw_tbl ∧ cd_gw (Cond.classLink y.cls z.2.2.2 nm') = true) (hk : va_Nc nm nm' (cx_s C)) (h : cd_Sk pl (cx_s C) (cx_m C).cls pc th hp t) : cd_Sk pl (cx_s C) (cx_m C).cls pc th hp (z :: t) := by
  obtain ⟨c5, hc5, hcl5⟩ := Cond.classLink_spec O.2.2.2.1 (cd_word O hl) pl hpl
  obtain ⟨c3, c4, hc3, hc4, hasg⟩ := hk
  cases Option.some.inj (hc3.symm.trans hth)
  cases Option.some.inj (hc4.symm.trans hc5)
  exact Or.inr ⟨hc, h0, _, hcl5, Or.inr ⟨hasg, h⟩⟩
end Catch
