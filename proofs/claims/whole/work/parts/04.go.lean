/-! ===== TABLES: what every state of the run has =====
cd_gw: a word that the tables alone decide and that stays true when they are warmed -/
theorem cd_gw_at {c : Cond} (hc : cd_gw c = true) {a a' : Array Value} {s U : State} (hW : s.WarmedH U.vm) (h : c.before a s = true) : c.before a' U = true := by
  simp only [cd_gw, Bool.and_eq_true] at hc
  have h1 : c.before a (s.setVm U.vm) = true := Cond.before_shiftedFace (State.Shifted.of_warmed hW) c hc.2 h
  exact va_tabs hc.1 (rfl : (s.setVm U.vm).vm = U.vm) h1
def cd_tys (G : cd_Gl) : List (ClassId × FieldType) := (List.range cd_ty.length).filterMap fun i => (cd_ty[i]?).map fun t => (G.2.1 i, t)
theorem cd_tys_get {G : cd_Gl} {i : Nat} {t : FieldType} (h : cd_ty[i]? = some t) : ∃ k : Nat, (cd_tys G)[k]? = some (G.2.1 i, t) := by
  apply List.getElem?_of_mem
  exact List.mem_filterMap.mpr ⟨i, List.mem_range.mpr (List.getElem?_eq_some_iff.mp h).1, by rw [h]; rfl⟩
/-- a static of Throwable that holds a reference, at its place in the heap of the start -/
def cd_Zr (G : cd_Gl) (n d : String) (s : State) : Prop := ∃ (c : ClassId) (k : Class) (i : Nat) (f : Field) (a : Nat) (cell : Cell) (v : Value), s.vm.findClass Bundle.tN = some c ∧ s.fieldFound? Bundle.tN n d = some (c, k, i, f) ∧ f.isStatic = true ∧ k.statics = some a ∧ G.2.2[a]? = some cell ∧ cell.vm.isStatics = true ∧ cell.cls = c ∧ f.slot < cell.slots.size ∧ k.staticTypes[f.slot]? = some f.type ∧ cell.slots[f.slot]? = some v ∧ v.isRef = true
theorem cd_Zr.warm {G : cd_Gl} {n d : String} {s U : State} (hvm : s.vm.Alike U.vm) (h : cd_Zr G n d s) : cd_Zr G n d U := by
  obtain ⟨c, k, i, f, a, cell, v, h1, h2, h3, h4, h5, h6, h7, h8, h9, h10⟩ := h
  obtain ⟨k', e1, e2⟩ := State.fieldFound?_setVm hvm h2
  refine ⟨c, k', i, f, a, cell, v, by rw [hvm.findClass]; exact h1, e1, h3, by rw [e2]; exact h4, h5, h6, h7, h8, by rw [e2]; exact h9, h10⟩
def cd_Tb (G : cd_Gl) (s : State) : Prop :=
  (∀ c ∈ lw_tbl, cd_gw c = true → ∀ a, c.before a s = true) ∧ va_K G.1 cd_cls (cd_tys G) s ∧
  (∀ (i : Nat) (t : FieldType), cd_ty[i]? = some t → match t with
    | .object C => va_AO C s
    | t => (Cond.arrayClass t).before #[] s = true) ∧
  (∀ x ∈ cd_str, ∃ a, vk_R x.1 x.2.1 x.2.2 a s) ∧
  cd_Zr G "UNASSIGNED_STACK" Bundle.steD s ∧ cd_Zr G "SUPPRESSED_SENTINEL" Bundle.listD s ∧
  (∀ i j : Nat, 1 ≤ i → i ≤ 6 → 1 ≤ j → j ≤ 6 → i ≠ j → va_Nc (cd_ex i) (cd_ex j) s)
theorem cd_Tb.warm {G : cd_Gl} {s U : State} (hW : s.WarmedH U.vm) (h : cd_Tb G s) : cd_Tb G U := by
  obtain ⟨h1, h2, h3, h4, h5, h6, h7⟩ := h
  refine ⟨fun c hc hg a => cd_gw_at hg hW (h1 c hc hg #[]), h2.moved hW.alike, fun i t ht => ?_, fun x hx => ?_, h5.warm hW.alike, h6.warm hW.alike, fun i j a b c d e => (h7 i j a b c d e).moved hW.alike⟩
  · have h := h3 i t ht
    cases t with
    | object C => exact va_AO.moved hW.alike h
    | _ => exact word_at hW (Or.inr ⟨_, rfl⟩) h
  · obtain ⟨a, ha⟩ := h4 x hx
    exact ⟨a, ha.warm hW⟩
/-! ===== A FRAME: where a method stands ===== -/
abbrev cd_Cx : Type := Program × Env × Room × State × MethodId × Array Value × List Frame × Method × Code
abbrev cx_p (C : cd_Cx) : Program := C.1
abbrev cx_e (C : cd_Cx) : Env := C.2.1
abbrev cx_R (C : cd_Cx) : Room := C.2.2.1
abbrev cx_s (C : cd_Cx) : State := C.2.2.2.1
abbrev cx_m (C : cd_Cx) : MethodId := C.2.2.2.2.1
abbrev cx_a (C : cd_Cx) : Array Value := C.2.2.2.2.2.1
abbrev cx_b (C : cd_Cx) : List Frame := C.2.2.2.2.2.2.1
abbrev cx_h (C : cd_Cx) : Method := C.2.2.2.2.2.2.2.1
abbrev cx_c (C : cd_Cx) : Code := C.2.2.2.2.2.2.2.2
def cd_H0 (G : cd_Gl) (H : Heap) : Prop := G.2.2.size ≤ H.size ∧ (∀ q, q < G.2.2.size → H[q]? = G.2.2[q]?) ∧ ∀ (a : Nat) (c : Cell), G.2.2.size ≤ a → H[a]? = some c → c.vm.isStatics = false
theorem cd_Hp.h0 {G : cd_Gl} {w : cd_Wd} {H : Heap} (h : cd_Hp G w H) : cd_H0 G H := ⟨h.1, h.2.1, h.2.2.1⟩
/-- what holds in a frame of the method y: its bytes, its locals, its answer's type, its handlers; the tables -/
def cd_Ok (G : cd_Gl) (y : MethodName) (cc : ByteArray) (nL : Nat) (ret : Option FieldType) (ex : List (Nat × Nat × Nat × Nat)) (R : Room) (C : cd_Cx) : Prop :=
  (cx_p C).tables.exec = Jvm.exec ∧ (cx_c C).code = cc ∧ (cx_c C).maxLocals = nL ∧ (cx_s C).vm.findClass y.cls = some (cx_m C).cls ∧ (cx_h C).sig.returnType = ret ∧ (cx_h C).locks = false ∧ (cx_h C).name = y.name ∧
  cd_Tb G (cx_s C) ∧ (cx_c C).exceptionTable.toList.map (fun h => (h.startPc, h.endPc, h.handlerPc, h.catchType)) = ex ∧ cx_R C = R ∧ cd_H0 G (cx_s C).heap
/-- the machine, from this point of this frame, comes to Q -/
def cd_Go (G : cd_Gl) (l : Launch) (C : cd_Cx) (Q : State → Prop) (k n : Nat) (w : cd_Wd) (pc : Nat) (lv : List (Option Value)) (st : List Value) : Prop :=
  ∀ (H : Heap) (locs : List Loc) (ls : Array Slot), cd_Hp G w H → (∀ x ∈ locs, G.2.2.size ≤ x.base) → cd_Lo ls lv → W (cx_p C) l (cx_e C) (cx_R C) (cx_s C) (cx_m C) (cx_a C) (cx_b C) (cx_h C) (cx_c C) H locs k n Q (F0 (cx_m C) pc ls st)
section Rows
variable {G : cd_Gl} {l : Launch} {C : cd_Cx} {Q : State → Prop} {k n : Nat} {w : cd_Wd} {pc : Nat} {lv : List (Option Value)} {rest : List Value} {y : MethodName} {cc : ByteArray} {nL : Nat} {ret : Option FieldType} {ex : List (Nat × Nat × Nat × Nat)} {R : Room}
theorem g_iconst (O : cd_Ok G y cc nL ret ex R C) {i : Int} {v : Int32} (hd : decode cc pc = .ok (.iconst i, 1)) (hv : Int32.ofInt i = v) (h : cd_Go G l C Q k n w (pc + 1) lv (.int v :: rest)) : cd_Go G l C Q k n w pc lv rest :=
  fun H locs ls a b c => lv_iconst O.1 O.2.1 hd hv (h H locs ls a b c)
theorem g_bipush (O : cd_Ok G y cc nL ret ex R C) {i : Int} {v : Int32} (hd : decode cc pc = .ok (.bipush i, 2)) (hv : (Int8.ofInt i).toInt32 = v) (h : cd_Go G l C Q k n w (pc + 2) lv (.int v :: rest)) : cd_Go G l C Q k n w pc lv rest :=
  fun H locs ls a b c => lv_bipush O.1 O.2.1 hd hv (h H locs ls a b c)
theorem g_null (O : cd_Ok G y cc nL ret ex R C) (hd : decode cc pc = .ok (.aconst_null, 1)) (h : cd_Go G l C Q k n w (pc + 1) lv (va_rf none :: rest)) : cd_Go G l C Q k n w pc lv rest :=
  fun H locs ls a b c => lv_null O.1 O.2.1 hd (h H locs ls a b c)
theorem g_iload_n (O : cd_Ok G y cc nL ret ex R C) {f : Fin 4} (i : Nat) {v : Int32} (hd : decode cc pc = .ok (.iload_n f, 1)) (hi : (f : Nat) = i) (hv : lv[i]? = some (some (.int v))) (h : cd_Go G l C Q k n w (pc + 1) lv (.int v :: rest)) : cd_Go G l C Q k n w pc lv rest :=
  fun H locs ls a b c => lv_iload_n O.1 O.2.1 hd hi (c.2.2 _ _ hv).1 (h H locs ls a b c)
theorem g_iload (O : cd_Ok G y cc nL ret ex R C) {i : Nat} {v : Int32} (hd : decode cc pc = .ok (.iload i, 2)) (hv : lv[i]? = some (some (.int v))) (h : cd_Go G l C Q k n w (pc + 2) lv (.int v :: rest)) : cd_Go G l C Q k n w pc lv rest :=
  fun H locs ls a b c => lv_iload O.1 O.2.1 hd (c.2.2 _ _ hv).1 (h H locs ls a b c)
theorem g_aload_n (O : cd_Ok G y cc nL ret ex R C) {f : Fin 4} (i : Nat) {v : Nat} (hd : decode cc pc = .ok (.aload_n f, 1)) (hi : (f : Nat) = i) (hv : lv[i]? = some (some (.ref v))) (h : cd_Go G l C Q k n w (pc + 1) lv (.ref v :: rest)) : cd_Go G l C Q k n w pc lv rest :=
  fun H locs ls a b c => lv_aload_n O.1 O.2.1 hd hi (c.2.2 _ _ hv).1 (h H locs ls a b c)
theorem g_aload (O : cd_Ok G y cc nL ret ex R C) {i : Nat} {v : Nat} (hd : decode cc pc = .ok (.aload i, 2)) (hv : lv[i]? = some (some (.ref v))) (h : cd_Go G l C Q k n w (pc + 2) lv (.ref v :: rest)) : cd_Go G l C Q k n w pc lv rest :=
  fun H locs ls a b c => lv_aload O.1 O.2.1 hd (c.2.2 _ _ hv).1 (h H locs ls a b c)
theorem g_aload_nq (O : cd_Ok G y cc nL ret ex R C) {f : Fin 4} (i : Nat) {r : Option Nat} (hd : decode cc pc = .ok (.aload_n f, 1)) (hi : (f : Nat) = i) (hv : lv[i]? = some (some (va_rf r))) (h : cd_Go G l C Q k n w (pc + 1) lv (va_rf r :: rest)) : cd_Go G l C Q k n w pc lv rest := by
  intro H locs ls a b c
  have hc := (c.2.2 _ _ hv).1
  cases r with
  | none => exact lv_aload_nN O.1 O.2.1 hd hi hc (h H locs ls a b c)
  | some v => exact lv_aload_n O.1 O.2.1 hd hi hc (h H locs ls a b c)
theorem g_aloadq (O : cd_Ok G y cc nL ret ex R C) {i : Nat} {r : Option Nat} (hd : decode cc pc = .ok (.aload i, 2)) (hv : lv[i]? = some (some (va_rf r))) (h : cd_Go G l C Q k n w (pc + 2) lv (va_rf r :: rest)) : cd_Go G l C Q k n w pc lv rest := by
  intro H locs ls a b c
  have hc := (c.2.2 _ _ hv).1
  cases r with
  | none => exact lv_aloadN O.1 O.2.1 hd hc (h H locs ls a b c)
  | some v => exact lv_aload O.1 O.2.1 hd hc (h H locs ls a b c)
theorem g_istore_n (O : cd_Ok G y cc nL ret ex R C) {f : Fin 4} (i : Nat) {v : Int32} (hd : decode cc pc = .ok (.istore_n f, 1)) (hf : (f : Nat) = i) (hi : i < lv.length) (h : cd_Go G l C Q k n w (pc + 1) (lv.set i (some (.int v))) rest) : cd_Go G l C Q k n w pc lv (.int v :: rest) :=
  fun H locs _ a b c => lv_istore_n O.1 O.2.1 hd hf c.has hi rfl fun ls' h' => h H locs ls' a b (c.set rfl h')
theorem g_istore (O : cd_Ok G y cc nL ret ex R C) {i : Nat} {v : Int32} (hd : decode cc pc = .ok (.istore i, 2)) (hi : i < lv.length) (h : cd_Go G l C Q k n w (pc + 2) (lv.set i (some (.int v))) rest) : cd_Go G l C Q k n w pc lv (.int v :: rest) :=
  fun H locs _ a b c => lv_istore O.1 O.2.1 hd c.has hi rfl fun ls' h' => h H locs ls' a b (c.set rfl h')
theorem g_astore_n (O : cd_Ok G y cc nL ret ex R C) {f : Fin 4} (i : Nat) {v : Nat} (hd : decode cc pc = .ok (.astore_n f, 1)) (hf : (f : Nat) = i) (hi : i < lv.length) (h : cd_Go G l C Q k n w (pc + 1) (lv.set i (some (.ref v))) rest) : cd_Go G l C Q k n w pc lv (.ref v :: rest) :=
  fun H locs _ a b c => lv_astore_n O.1 O.2.1 hd hf c.has hi rfl fun ls' h' => h H locs ls' a b (c.set rfl h')
theorem g_astore (O : cd_Ok G y cc nL ret ex R C) {i : Nat} {v : Nat} (hd : decode cc pc = .ok (.astore i, 2)) (hi : i < lv.length) (h : cd_Go G l C Q k n w (pc + 2) (lv.set i (some (.ref v))) rest) : cd_Go G l C Q k n w pc lv (.ref v :: rest) :=
  fun H locs _ a b c => lv_astore O.1 O.2.1 hd c.has hi rfl fun ls' h' => h H locs ls' a b (c.set rfl h')
theorem g_astore_nq (O : cd_Ok G y cc nL ret ex R C) {f : Fin 4} (i : Nat) {r : Option Nat} (hd : decode cc pc = .ok (.astore_n f, 1)) (hf : (f : Nat) = i) (hi : i < lv.length) (h : cd_Go G l C Q k n w (pc + 1) (lv.set i (some (va_rf r))) rest) : cd_Go G l C Q k n w pc lv (va_rf r :: rest) := by
  intro H locs _ a b c
  cases r with
  | none => exact lv_astore_nN O.1 O.2.1 hd hf c.has hi rfl fun ls' h' => h H locs ls' a b (c.set rfl h')
  | some v => exact lv_astore_n O.1 O.2.1 hd hf c.has hi rfl fun ls' h' => h H locs ls' a b (c.set rfl h')
theorem g_astoreq (O : cd_Ok G y cc nL ret ex R C) {i : Nat} {r : Option Nat} (hd : decode cc pc = .ok (.astore i, 2)) (hi : i < lv.length) (h : cd_Go G l C Q k n w (pc + 2) (lv.set i (some (va_rf r))) rest) : cd_Go G l C Q k n w pc lv (va_rf r :: rest) := by
  intro H locs _ a b c
  cases r with
  | none => exact lv_astoreN O.1 O.2.1 hd c.has hi rfl fun ls' h' => h H locs ls' a b (c.set rfl h')
  | some v => exact lv_astore O.1 O.2.1 hd c.has hi rfl fun ls' h' => h H locs ls' a b (c.set rfl h')
theorem g_iinc (O : cd_Ok G y cc nL ret ex R C) {i : Nat} {d : Int} {x v : Int32} (hd : decode cc pc = .ok (.iinc i d, 3)) (hv : lv[i]? = some (some (.int x))) (he : x + Int32.ofInt d = v) (h : cd_Go G l C Q k n w (pc + 3) (lv.set i (some (.int v))) rest) : cd_Go G l C Q k n w pc lv rest := by
  intro H locs _ a b c
  obtain ⟨z, hz⟩ := List.getElem?_of_mem (cd_es_mem.mpr hv)
  exact lv_iinc O.1 O.2.1 hd c.has hz he (List.getElem?_eq_some_iff.mp hv).1 rfl fun ls' h' => h H locs ls' a b (c.set rfl h')
theorem g_iadd (O : cd_Ok G y cc nL ret ex R C) {x z : Int32} (hd : decode cc pc = .ok (.iadd, 1)) (h : cd_Go G l C Q k n w (pc + 1) lv (.int (x + z) :: rest)) : cd_Go G l C Q k n w pc lv (.int z :: .int x :: rest) :=
  fun H locs ls a b c => lv_iadd O.1 O.2.1 hd (h H locs ls a b c)
theorem g_isub (O : cd_Ok G y cc nL ret ex R C) {x z : Int32} (hd : decode cc pc = .ok (.isub, 1)) (h : cd_Go G l C Q k n w (pc + 1) lv (.int (x - z) :: rest)) : cd_Go G l C Q k n w pc lv (.int z :: .int x :: rest) :=
  fun H locs ls a b c => lv_isub O.1 O.2.1 hd (h H locs ls a b c)
theorem g_imul (O : cd_Ok G y cc nL ret ex R C) {x z : Int32} (hd : decode cc pc = .ok (.imul, 1)) (h : cd_Go G l C Q k n w (pc + 1) lv (.int (x * z) :: rest)) : cd_Go G l C Q k n w pc lv (.int z :: .int x :: rest) :=
  fun H locs ls a b c => lv_imul O.1 O.2.1 hd (h H locs ls a b c)
theorem g_iand (O : cd_Ok G y cc nL ret ex R C) {x z : Int32} (hd : decode cc pc = .ok (.iand, 1)) (h : cd_Go G l C Q k n w (pc + 1) lv (.int (x &&& z) :: rest)) : cd_Go G l C Q k n w pc lv (.int z :: .int x :: rest) :=
  fun H locs ls a b c => lv_iand O.1 O.2.1 hd (h H locs ls a b c)
theorem g_ior (O : cd_Ok G y cc nL ret ex R C) {x z : Int32} (hd : decode cc pc = .ok (.ior, 1)) (h : cd_Go G l C Q k n w (pc + 1) lv (.int (x ||| z) :: rest)) : cd_Go G l C Q k n w pc lv (.int z :: .int x :: rest) :=
  fun H locs ls a b c => lv_ior O.1 O.2.1 hd (h H locs ls a b c)
theorem g_ixor (O : cd_Ok G y cc nL ret ex R C) {x z : Int32} (hd : decode cc pc = .ok (.ixor, 1)) (h : cd_Go G l C Q k n w (pc + 1) lv (.int (x ^^^ z) :: rest)) : cd_Go G l C Q k n w pc lv (.int z :: .int x :: rest) :=
  fun H locs ls a b c => lv_ixor O.1 O.2.1 hd (h H locs ls a b c)
theorem g_idiv (O : cd_Ok G y cc nL ret ex R C) {x z : Int32} (hd : decode cc pc = .ok (.idiv, 1)) (hz : z ≠ 0) (h : cd_Go G l C Q k n w (pc + 1) lv (.int (x / z) :: rest)) : cd_Go G l C Q k n w pc lv (.int z :: .int x :: rest) :=
  fun H locs ls a b c => lv_idiv O.1 O.2.1 hd hz (h H locs ls a b c)
theorem g_irem (O : cd_Ok G y cc nL ret ex R C) {x z : Int32} (hd : decode cc pc = .ok (.irem, 1)) (hz : z ≠ 0) (h : cd_Go G l C Q k n w (pc + 1) lv (.int (x - x / z * z) :: rest)) : cd_Go G l C Q k n w pc lv (.int z :: .int x :: rest) :=
  fun H locs ls a b c => lv_irem O.1 O.2.1 hd hz (h H locs ls a b c)
theorem g_dup2 (O : cd_Ok G y cc nL ret ex R C) {u v : Value} (hd : decode cc pc = .ok (.dup2, 1)) (hu : u.category = 1) (hv : v.category = 1) (h : cd_Go G l C Q k n w (pc + 1) lv (u :: v :: u :: v :: rest)) : cd_Go G l C Q k n w pc lv (u :: v :: rest) :=
  fun H locs ls a b c => lv_dup2_11 O.1 O.2.1 hd hu hv (h H locs ls a b c)
theorem g_sipush (O : cd_Ok G y cc nL ret ex R C) {i : Int} {v : Int32} (hd : decode cc pc = .ok (.sipush i, 3)) (hv : (Int16.ofInt i).toInt32 = v) (h : cd_Go G l C Q k n w (pc + 3) lv (.int v :: rest)) : cd_Go G l C Q k n w pc lv rest :=
  fun H locs ls a b c => lv_sipush O.1 O.2.1 hd hv (h H locs ls a b c)
theorem g_i2l (O : cd_Ok G y cc nL ret ex R C) {x : Int32} {v : Int64} (hd : decode cc pc = .ok (.i2l, 1)) (hv : x.toInt64 = v) (h : cd_Go G l C Q k n w (pc + 1) lv (.long v :: rest)) : cd_Go G l C Q k n w pc lv (.int x :: rest) :=
  fun H locs ls a b c => lv_i2l O.1 O.2.1 hd hv (h H locs ls a b c)
theorem g_dup (O : cd_Ok G y cc nL ret ex R C) {v : Value} (hd : decode cc pc = .ok (.dup, 1)) (hv : v.category = 1) (h : cd_Go G l C Q k n w (pc + 1) lv (v :: v :: rest)) : cd_Go G l C Q k n w pc lv (v :: rest) :=
  fun H locs ls a b c => lv_dup O.1 O.2.1 hd hv (h H locs ls a b c)
theorem g_pop (O : cd_Ok G y cc nL ret ex R C) {v : Value} (hd : decode cc pc = .ok (.pop, 1)) (hv : v.category = 1) (h : cd_Go G l C Q k n w (pc + 1) lv rest) : cd_Go G l C Q k n w pc lv (v :: rest) :=
  fun H locs ls a b c => lv_pop O.1 O.2.1 hd hv (h H locs ls a b c)
theorem g_goto (O : cd_Ok G y cc nL ret ex R C) {off : Int} (tgt : Nat) (hd : decode cc pc = .ok (.goto off, 3)) (ht : (pc : Int) + off = (tgt : Int)) (h : cd_Go G l C Q k n w tgt lv rest) : cd_Go G l C Q k n w pc lv rest :=
  fun H locs ls a b c => lv_goto O.1 O.2.1 hd ht (h H locs ls a b c)
theorem g_if_eq (O : cd_Ok G y cc nL ret ex R C) {x : Int32} {off : Int} (tgt : Nat) (hd : decode cc pc = .ok (.ifCond .eq off, 3)) (ht : (pc : Int) + off = (tgt : Int)) (h1 : x = 0 → cd_Go G l C Q k n w tgt lv rest) (h2 : ¬ x = 0 → cd_Go G l C Q k n w (pc + 3) lv rest) : cd_Go G l C Q k n w pc lv (.int x :: rest) :=
  fun H locs ls a b c => lv_if_eq O.1 O.2.1 hd ht (fun z => h1 z H locs ls a b c) (fun z => h2 z H locs ls a b c)
theorem g_icmp_eq (O : cd_Ok G y cc nL ret ex R C) {x z : Int32} {off : Int} (tgt : Nat) (hd : decode cc pc = .ok (.if_icmp .eq off, 3)) (ht : (pc : Int) + off = (tgt : Int)) (h1 : x = z → cd_Go G l C Q k n w tgt lv rest) (h2 : ¬ x = z → cd_Go G l C Q k n w (pc + 3) lv rest) : cd_Go G l C Q k n w pc lv (.int z :: .int x :: rest) :=
  fun H locs ls a b c => lv_icmp_eq O.1 O.2.1 hd ht (fun q => h1 q H locs ls a b c) (fun q => h2 q H locs ls a b c)
theorem g_if_ne (O : cd_Ok G y cc nL ret ex R C) {x : Int32} {off : Int} (tgt : Nat) (hd : decode cc pc = .ok (.ifCond .ne off, 3)) (ht : (pc : Int) + off = (tgt : Int)) (h1 : ¬ x = 0 → cd_Go G l C Q k n w tgt lv rest) (h2 : x = 0 → cd_Go G l C Q k n w (pc + 3) lv rest) : cd_Go G l C Q k n w pc lv (.int x :: rest) :=
  fun H locs ls a b c => lv_if_ne O.1 O.2.1 hd ht (fun z => h1 z H locs ls a b c) (fun z => h2 z H locs ls a b c)
theorem g_icmp_ne (O : cd_Ok G y cc nL ret ex R C) {x z : Int32} {off : Int} (tgt : Nat) (hd : decode cc pc = .ok (.if_icmp .ne off, 3)) (ht : (pc : Int) + off = (tgt : Int)) (h1 : ¬ x = z → cd_Go G l C Q k n w tgt lv rest) (h2 : x = z → cd_Go G l C Q k n w (pc + 3) lv rest) : cd_Go G l C Q k n w pc lv (.int z :: .int x :: rest) :=
  fun H locs ls a b c => lv_icmp_ne O.1 O.2.1 hd ht (fun q => h1 q H locs ls a b c) (fun q => h2 q H locs ls a b c)
theorem g_if_lt (O : cd_Ok G y cc nL ret ex R C) {x : Int32} {off : Int} (tgt : Nat) (hd : decode cc pc = .ok (.ifCond .lt off, 3)) (ht : (pc : Int) + off = (tgt : Int)) (h1 : x < 0 → cd_Go G l C Q k n w tgt lv rest) (h2 : ¬ x < 0 → cd_Go G l C Q k n w (pc + 3) lv rest) : cd_Go G l C Q k n w pc lv (.int x :: rest) :=
  fun H locs ls a b c => lv_if_lt O.1 O.2.1 hd ht (fun z => h1 z H locs ls a b c) (fun z => h2 z H locs ls a b c)
theorem g_icmp_lt (O : cd_Ok G y cc nL ret ex R C) {x z : Int32} {off : Int} (tgt : Nat) (hd : decode cc pc = .ok (.if_icmp .lt off, 3)) (ht : (pc : Int) + off = (tgt : Int)) (h1 : x < z → cd_Go G l C Q k n w tgt lv rest) (h2 : ¬ x < z → cd_Go G l C Q k n w (pc + 3) lv rest) : cd_Go G l C Q k n w pc lv (.int z :: .int x :: rest) :=
  fun H locs ls a b c => lv_icmp_lt O.1 O.2.1 hd ht (fun q => h1 q H locs ls a b c) (fun q => h2 q H locs ls a b c)
theorem g_if_ge (O : cd_Ok G y cc nL ret ex R C) {x : Int32} {off : Int} (tgt : Nat) (hd : decode cc pc = .ok (.ifCond .ge off, 3)) (ht : (pc : Int) + off = (tgt : Int)) (h1 : 0 ≤ x → cd_Go G l C Q k n w tgt lv rest) (h2 : ¬ 0 ≤ x → cd_Go G l C Q k n w (pc + 3) lv rest) : cd_Go G l C Q k n w pc lv (.int x :: rest) :=
  fun H locs ls a b c => lv_if_ge O.1 O.2.1 hd ht (fun z => h1 z H locs ls a b c) (fun z => h2 z H locs ls a b c)
theorem g_icmp_ge (O : cd_Ok G y cc nL ret ex R C) {x z : Int32} {off : Int} (tgt : Nat) (hd : decode cc pc = .ok (.if_icmp .ge off, 3)) (ht : (pc : Int) + off = (tgt : Int)) (h1 : z ≤ x → cd_Go G l C Q k n w tgt lv rest) (h2 : ¬ z ≤ x → cd_Go G l C Q k n w (pc + 3) lv rest) : cd_Go G l C Q k n w pc lv (.int z :: .int x :: rest) :=
  fun H locs ls a b c => lv_icmp_ge O.1 O.2.1 hd ht (fun q => h1 q H locs ls a b c) (fun q => h2 q H locs ls a b c)
theorem g_if_gt (O : cd_Ok G y cc nL ret ex R C) {x : Int32} {off : Int} (tgt : Nat) (hd : decode cc pc = .ok (.ifCond .gt off, 3)) (ht : (pc : Int) + off = (tgt : Int)) (h1 : 0 < x → cd_Go G l C Q k n w tgt lv rest) (h2 : ¬ 0 < x → cd_Go G l C Q k n w (pc + 3) lv rest) : cd_Go G l C Q k n w pc lv (.int x :: rest) :=
  fun H locs ls a b c => lv_if_gt O.1 O.2.1 hd ht (fun z => h1 z H locs ls a b c) (fun z => h2 z H locs ls a b c)
theorem g_icmp_gt (O : cd_Ok G y cc nL ret ex R C) {x z : Int32} {off : Int} (tgt : Nat) (hd : decode cc pc = .ok (.if_icmp .gt off, 3)) (ht : (pc : Int) + off = (tgt : Int)) (h1 : z < x → cd_Go G l C Q k n w tgt lv rest) (h2 : ¬ z < x → cd_Go G l C Q k n w (pc + 3) lv rest) : cd_Go G l C Q k n w pc lv (.int z :: .int x :: rest) :=
  fun H locs ls a b c => lv_icmp_gt O.1 O.2.1 hd ht (fun q => h1 q H locs ls a b c) (fun q => h2 q H locs ls a b c)
theorem g_if_le (O : cd_Ok G y cc nL ret ex R C) {x : Int32} {off : Int} (tgt : Nat) (hd : decode cc pc = .ok (.ifCond .le off, 3)) (ht : (pc : Int) + off = (tgt : Int)) (h1 : x ≤ 0 → cd_Go G l C Q k n w tgt lv rest) (h2 : ¬ x ≤ 0 → cd_Go G l C Q k n w (pc + 3) lv rest) : cd_Go G l C Q k n w pc lv (.int x :: rest) :=
  fun H locs ls a b c => lv_if_le O.1 O.2.1 hd ht (fun z => h1 z H locs ls a b c) (fun z => h2 z H locs ls a b c)
theorem g_icmp_le (O : cd_Ok G y cc nL ret ex R C) {x z : Int32} {off : Int} (tgt : Nat) (hd : decode cc pc = .ok (.if_icmp .le off, 3)) (ht : (pc : Int) + off = (tgt : Int)) (h1 : x ≤ z → cd_Go G l C Q k n w tgt lv rest) (h2 : ¬ x ≤ z → cd_Go G l C Q k n w (pc + 3) lv rest) : cd_Go G l C Q k n w pc lv (.int z :: .int x :: rest) :=
  fun H locs ls a b c => lv_icmp_le O.1 O.2.1 hd ht (fun q => h1 q H locs ls a b c) (fun q => h2 q H locs ls a b c)
theorem g_acmp_eq (O : cd_Ok G y cc nL ret ex R C) {x z : Option Nat} {off : Int} (tgt : Nat) (hd : decode cc pc = .ok (.if_acmp .eq off, 3)) (ht : (pc : Int) + off = (tgt : Int)) (h1 : x = z → cd_Go G l C Q k n w tgt lv rest) (h2 : ¬ x = z → cd_Go G l C Q k n w (pc + 3) lv rest) : cd_Go G l C Q k n w pc lv (va_rf z :: va_rf x :: rest) :=
  fun H locs ls a b c => lv_acmp_eq O.1 O.2.1 hd ht (fun q => h1 q H locs ls a b c) (fun q => h2 q H locs ls a b c)
theorem g_acmp_ne (O : cd_Ok G y cc nL ret ex R C) {x z : Option Nat} {off : Int} (tgt : Nat) (hd : decode cc pc = .ok (.if_acmp .ne off, 3)) (ht : (pc : Int) + off = (tgt : Int)) (h1 : ¬ x = z → cd_Go G l C Q k n w tgt lv rest) (h2 : x = z → cd_Go G l C Q k n w (pc + 3) lv rest) : cd_Go G l C Q k n w pc lv (va_rf z :: va_rf x :: rest) :=
  fun H locs ls a b c => lv_acmp_ne O.1 O.2.1 hd ht (fun q => h1 q H locs ls a b c) (fun q => h2 q H locs ls a b c)
theorem g_ifnull (O : cd_Ok G y cc nL ret ex R C) {r : Option Nat} {off : Int} (tgt : Nat) (hd : decode cc pc = .ok (.ifnull off, 3)) (ht : (pc : Int) + off = (tgt : Int)) (h1 : r = none → cd_Go G l C Q k n w tgt lv rest) (h2 : ∀ x, r = some x → cd_Go G l C Q k n w (pc + 3) lv rest) : cd_Go G l C Q k n w pc lv (va_rf r :: rest) := by
  intro H locs ls a b c
  cases r with
  | none => exact lv_ifnullN O.1 O.2.1 hd ht (h1 rfl H locs ls a b c)
  | some x => exact lv_ifnull O.1 O.2.1 hd (h2 x rfl H locs ls a b c)
theorem g_ifnonnull (O : cd_Ok G y cc nL ret ex R C) {r : Option Nat} {off : Int} (tgt : Nat) (hd : decode cc pc = .ok (.ifnonnull off, 3)) (ht : (pc : Int) + off = (tgt : Int)) (h1 : ∀ x, r = some x → cd_Go G l C Q k n w tgt lv rest) (h2 : r = none → cd_Go G l C Q k n w (pc + 3) lv rest) : cd_Go G l C Q k n w pc lv (va_rf r :: rest) := by
  intro H locs ls a b c
  cases r with
  | none => exact lv_ifnonnullN O.1 O.2.1 hd (h2 rfl H locs ls a b c)
  | some x => exact lv_ifnonnull O.1 O.2.1 hd ht (h1 x rfl H locs ls a b c)
/-! ### the classes of ours -/
theorem cd_word (O : cd_Ok G y cc nL ret ex R C) {c : Cond} (hm : c ∈ lw_tbl ∧ cd_gw c = true) : c.before (cx_a C) (cx_s C) = true := O.2.2.2.2.2.2.2.1.1 c hm.1 hm.2 _
theorem cd_hts (O : cd_Ok G y cc nL ret ex R C) : ∀ c ∈ lw_tbl.filter cd_gw, c.before (cx_a C) (cx_s C) = true := fun c hc => cd_word O ⟨(List.mem_filter.mp hc).1, (List.mem_filter.mp hc).2⟩
theorem cd_K (O : cd_Ok G y cc nL ret ex R C) : va_K G.1 cd_cls (cd_tys G) (cx_s C) := O.2.2.2.2.2.2.2.1.2.1
def cd_tR : FieldType → Bool
  | .object _ => true
  | .array _ => true
  | _ => false
def cd_tI : FieldType → Bool
  | .int => true
  | .boolean => true
  | _ => false
/-- a class of ours: its number, its row, its fields' types -/
def cd_Cl (ci : Nat) (q : vw_C) (ty : Nat → FieldType) : Prop := cd_cls[ci]? = some q ∧ (∀ c ∈ u_ws q.1 q.2.1 q.2.2, c ∈ lw_tbl ∧ cd_gw c = true) ∧ (∀ k, k < q.2.2 → parseFieldDescriptor (q.2.1 k).2.2.1 = some (ty k)) ∧ (∀ a, a < q.2.2 → ∀ b, b < q.2.2 → a ≠ b → (q.2.1 a).2.1 ≠ (q.2.1 b).2.1) ∧ q.2.2 ≤ 32 ∧ ∀ k, k < q.2.2 → (if cd_rf ci k then cd_tR (ty k) else cd_tI (ty k)) = true
theorem cd_Cl.in {ci : Nat} {q : vw_C} {ty : Nat → FieldType} (h : cd_Cl ci q ty) : ∀ c ∈ u_ws q.1 q.2.1 q.2.2, c ∈ lw_tbl.filter cd_gw := fun c hc => List.mem_filter.mpr (h.2.1 c hc)
theorem g_get (O : cd_Ok G y cc nL ret ex R C) {ci : Nat} {q : vw_C} {ty : Nat → FieldType} (hC : cd_Cl ci q ty) {a : Nat} (fk : Nat) {idx : Nat} (hk : fk < q.2.2) (ha : cd_kd w a = 2 * ci + 2)
    (hl : Cond.fieldLink y.cls idx (q.2.1 fk).1 (q.2.1 fk).2.1 (q.2.1 fk).2.2.1 ∈ lw_tbl ∧ cd_gw (Cond.fieldLink y.cls idx (q.2.1 fk).1 (q.2.1 fk).2.1 (q.2.1 fk).2.2.1) = true) (hd : decode cc pc = .ok (.getfield idx, 3))
    (h : cd_Go G l C Q k n w (pc + 3) lv (cd_fv w ci fk a :: rest)) : cd_Go G l C Q k n w pc lv (.ref a :: rest) := by
  intro H locs ls a1 b1 c1
  have hP : va_P G.1 cd_cls [(a, .inr (ci, (List.range q.2.2).map fun k => cd_fv w ci k a))] H := by
    intro z x hx
    have hz : z < 1 := (List.getElem?_eq_some_iff.mp hx).1
    rw [show z = 0 by omega] at hx
    cases hx
    refine ⟨q, hC.1, (a1.obj ha hC.1).to fun j hj => ?_⟩
    simp [vp_V, hj]
  exact va_get (D := G.1) (v := cd_fv w ci fk a) O.1 O.2.1 (cd_hts O) hC.in O.2.2.2.1 (cd_K O) hP 0 rfl hC.1 fk hk (cd_word O hl) (fun _ h9 => h9) (by simp [hk]) hd (h H locs ls a1 b1 c1)
theorem g_getI (O : cd_Ok G y cc nL ret ex R C) {ci : Nat} {q : vw_C} {ty : Nat → FieldType} (hC : cd_Cl ci q ty) {a : Nat} (fk : Nat) {idx : Nat} (hk : fk < q.2.2) (hr : cd_rf ci fk = false) (ha : cd_kd w a = 2 * ci + 2)
    (hl : Cond.fieldLink y.cls idx (q.2.1 fk).1 (q.2.1 fk).2.1 (q.2.1 fk).2.2.1 ∈ lw_tbl ∧ cd_gw (Cond.fieldLink y.cls idx (q.2.1 fk).1 (q.2.1 fk).2.1 (q.2.1 fk).2.2.1) = true) (hd : decode cc pc = .ok (.getfield idx, 3))
    (h : cd_Go G l C Q k n w (pc + 3) lv (.int (cd_I w (32 * ci + fk) a 0) :: rest)) : cd_Go G l C Q k n w pc lv (.ref a :: rest) :=
  g_get O hC fk hk ha hl hd (by rw [cd_fv, hr]; exact h)
theorem g_getO (O : cd_Ok G y cc nL ret ex R C) {ci : Nat} {q : vw_C} {ty : Nat → FieldType} (hC : cd_Cl ci q ty) {a : Nat} (fk : Nat) {idx : Nat} (hk : fk < q.2.2) (hr : cd_rf ci fk = true) (ha : cd_kd w a = 2 * ci + 2)
    (hl : Cond.fieldLink y.cls idx (q.2.1 fk).1 (q.2.1 fk).2.1 (q.2.1 fk).2.2.1 ∈ lw_tbl ∧ cd_gw (Cond.fieldLink y.cls idx (q.2.1 fk).1 (q.2.1 fk).2.1 (q.2.1 fk).2.2.1) = true) (hd : decode cc pc = .ok (.getfield idx, 3))
    (h : cd_Go G l C Q k n w (pc + 3) lv (va_rf (cd_O w (32 * ci + fk) a 0) :: rest)) : cd_Go G l C Q k n w pc lv (.ref a :: rest) :=
  g_get O hC fk hk ha hl hd (by rw [cd_fv, hr]; exact h)
/-- a field whose reference is known -/
theorem g_getS (O : cd_Ok G y cc nL ret ex R C) {ci : Nat} {q : vw_C} {ty : Nat → FieldType} (hC : cd_Cl ci q ty) {a b : Nat} (fk : Nat) {idx : Nat} (hk : fk < q.2.2) (hr : cd_rf ci fk = true) (ha : cd_kd w a = 2 * ci + 2)
    (hl : Cond.fieldLink y.cls idx (q.2.1 fk).1 (q.2.1 fk).2.1 (q.2.1 fk).2.2.1 ∈ lw_tbl ∧ cd_gw (Cond.fieldLink y.cls idx (q.2.1 fk).1 (q.2.1 fk).2.1 (q.2.1 fk).2.2.1) = true) (hd : decode cc pc = .ok (.getfield idx, 3)) (hb : cd_O w (32 * ci + fk) a 0 = some b)
    (h : cd_Go G l C Q k n w (pc + 3) lv (.ref b :: rest)) : cd_Go G l C Q k n w pc lv (.ref a :: rest) :=
  g_getO O hC fk hk hr ha hl hd (by rw [hb]; exact h)
theorem g_put (O : cd_Ok G y cc nL ret ex R C) {ci : Nat} {q : vw_C} {ty : Nat → FieldType} (hC : cd_Cl ci q ty) {a : Nat} (fk : Nat) {idx : Nat} {v : Value} {w' : cd_Wd} (hk : fk < q.2.2) (ha : cd_kd w a = 2 * ci + 2) (hn : narrow (ty fk) v = v) (hf : fits (ty fk) v = true)
    (hfin : (q.2.1 fk).2.2.2 = false ∨ ((q.2.1 fk).2.2.2 = true ∧ y.name = "<init>" ∧ (q.2.1 fk).1 = y.cls))
    (hl : Cond.fieldLink y.cls idx (q.2.1 fk).1 (q.2.1 fk).2.1 (q.2.1 fk).2.2.1 ∈ lw_tbl ∧ cd_gw (Cond.fieldLink y.cls idx (q.2.1 fk).1 (q.2.1 fk).2.1 (q.2.1 fk).2.2.1) = true) (hd : decode cc pc = .ok (.putfield idx, 3))
    (hk' : ∀ b, cd_kd w' b = cd_kd w b) (hl' : ∀ b, cd_ln w' b = cd_ln w b) (hI : ∀ t b j, b ≠ a → cd_I w' t b j = cd_I w t b j) (hO : ∀ t b j, b ≠ a → cd_O w' t b j = cd_O w t b j) (hJ : ∀ b j, b ≠ a → cd_J w' b j = cd_J w b j)
    (hv : ∀ j, j < q.2.2 → updV (fun k => cd_fv w ci k a) fk v j = cd_fv w' ci j a)
    (h : cd_Go G l C Q k n w' (pc + 3) lv rest) : cd_Go G l C Q k n w pc lv (v :: .ref a :: rest) := by
  intro H locs ls a1 b1 c1
  have hKK := cd_K O
  have hap := va_apart (own := y.cls) (cd_hts O) hC.in ty hC.2.2.1 hC.2.2.2.1 hKK hC.1
  obtain ⟨cell, q1, q2, q3, q4⟩ := a1.obj ha hC.1
  obtain ⟨hS, hfc, kC, hkC, hkind⟩ := hKK.1 ci _ hC.1
  obtain ⟨cf, kf, fi, f, hi, hsl⟩ := hS fk hk
  have hst := (u_facts hfc hkC (u_lays (cd_hts O) hC.in hk) hi).1
  have hge := a1.ge (a := a) (by omega)
  have fin : ∀ (H' : Heap), H'[a]? = some (cell.setSlot f.slot v) → H'.size = H.size → (∀ z, z ≠ a → H'[z]? = H[z]?) → W (cx_p C) l (cx_e C) (cx_R C) (cx_s C) (cx_m C) (cx_a C) (cx_b C) (cx_h C) (cx_c C) H' (locs ++ [⟨a, f.slot⟩]) k n Q (F0 (cx_m C) (pc + 3) ls rest) := by
    intro H' e1 e2 e3
    refine h H' _ ls (a1.upd e2 e3 (by omega) (fun c hc => ?_) hk' hl' hI hO hJ ⟨fun ci' hc' => ?_, fun i hi => ?_⟩) (t_lc b1 hge) c1
    · rw [e1] at hc
      cases hc
      show cell.vm.isStatics = false
      rw [q3]; rfl
    · rw [hk'] at hc'
      have hcc : ci' = ci := by omega
      subst hcc
      refine ⟨q, hC.1, t_OB.to (V := updV (fun k => cd_fv w ci' k a) fk v) ⟨_, e1, q2, q3, ?_⟩ hv⟩
      rw [hsl]
      exact t_set q4 hap hk v
    · rw [hk'] at hi; omega
  rcases hfin with hfin | ⟨hfin, hinit, hdecl⟩
  · have hlay := cd_hts O _ (hC.in _ (u_in_lay hk))
    unfold u_lay at hlay
    rw [if_neg (by rw [hfin]; decide)] at hlay
    have h6 := u_store hfc hkC hkind hlay hi (hC.2.2.1 fk hk) hn hf
    exact W.putK O.1 O.2.1 (f := f) ⟨O.2.2.2.1, cd_word O hl, ⟨_, _, _, hi⟩, hst⟩ (by rw [q2]; exact h6) q1 q3 (by rw [hsl]; exact k2_hasslot (q4 fk hk)) rfl rfl hd fin
  · have hlay := cd_hts O _ (hC.in _ (u_in_lay hk))
    unfold u_lay at hlay
    rw [if_pos hfin] at hlay
    have hcf : (cx_m C).cls = cf := by
      obtain ⟨_, _, c', _, _, _, -, -, hf', -, -, -, hown2, -⟩ := Cond.laysFinal_spec hlay
      have e1 : c' = cf := by have := hi.symm.trans hf'; simp at this; exact this.1.symm
      rw [hdecl] at hown2
      rw [← e1]; exact Option.some.inj (O.2.2.2.1.symm.trans hown2)
    have h6 := u_fits hfc hkC hkind (Or.inr hlay) hi (hC.2.2.1 fk hk) hn hf
    exact W.putFinK O.1 O.2.1 O.2.2.2.1 (cd_word O hl) hi hst hcf (by rw [O.2.2.2.2.2.2.1]; exact hinit) (by rw [q2]; exact h6) q1 q3 (by rw [hsl]; exact k2_hasslot (q4 fk hk)) rfl rfl hd fin
theorem g_putI (O : cd_Ok G y cc nL ret ex R C) {ci : Nat} {q : vw_C} {ty : Nat → FieldType} (hC : cd_Cl ci q ty) {a : Nat} (fk : Nat) {idx : Nat} {v : Int32} (hk : fk < q.2.2) (hr : cd_rf ci fk = false) (ha : cd_kd w a = 2 * ci + 2) (hn : ty fk = .int ∨ v = 0 ∨ v = 1)
    (hfin : (q.2.1 fk).2.2.2 = false ∨ ((q.2.1 fk).2.2.2 = true ∧ y.name = "<init>" ∧ (q.2.1 fk).1 = y.cls))
    (hl : Cond.fieldLink y.cls idx (q.2.1 fk).1 (q.2.1 fk).2.1 (q.2.1 fk).2.2.1 ∈ lw_tbl ∧ cd_gw (Cond.fieldLink y.cls idx (q.2.1 fk).1 (q.2.1 fk).2.1 (q.2.1 fk).2.2.1) = true) (hd : decode cc pc = .ok (.putfield idx, 3))
    (h : cd_Go G l C Q k n (cd_wI w (32 * ci + fk) a 0 v) (pc + 3) lv rest) : cd_Go G l C Q k n w pc lv (.int v :: .ref a :: rest) := by
  have hty := hC.2.2.2.2.2 fk hk
  rw [hr] at hty
  have h16 := hC.2.2.2.2.1
  refine g_put O hC fk hk ha ?_ ?_ hfin hl hd (kd_wI w _ a 0 v) (ln_wI w _ a 0 v) (fun t b j hb => ?_) (fun _ _ _ _ => rfl) (fun _ _ _ => rfl) (fun j hj => ?_) h
  · cases hz : ty fk <;> rw [hz] at hty <;> first | rfl | (simp [cd_tI] at hty; done) | skip
    rcases hn with h0 | h0 | h0
    · rw [hz] at h0; cases h0
    · subst h0; rfl
    · subst h0; rfl
  · cases hz : ty fk <;> rw [hz] at hty <;> first | rfl | (simp [cd_tI] at hty; done) | skip
    rcases hn with h0 | h0 | h0
    · rw [hz] at h0; cases h0
    · subst h0; rfl
    · subst h0; rfl
  · rw [I_wI, if_neg (fun z => hb z.2.1)]
  · by_cases e : j = fk
    · subst e
      simp [updV, cd_fv, hr, I_wI]
    · have : ¬ (32 * ci + j = 32 * ci + fk) := by omega
      simp [updV, cd_fv, e, I_wI, O_wI]
theorem g_putO (O : cd_Ok G y cc nL ret ex R C) {ci : Nat} {q : vw_C} {ty : Nat → FieldType} (hC : cd_Cl ci q ty) {a : Nat} (fk : Nat) {idx : Nat} {r : Option Nat} (hk : fk < q.2.2) (hr : cd_rf ci fk = true) (ha : cd_kd w a = 2 * ci + 2)
    (hfin : (q.2.1 fk).2.2.2 = false ∨ ((q.2.1 fk).2.2.2 = true ∧ y.name = "<init>" ∧ (q.2.1 fk).1 = y.cls))
    (hl : Cond.fieldLink y.cls idx (q.2.1 fk).1 (q.2.1 fk).2.1 (q.2.1 fk).2.2.1 ∈ lw_tbl ∧ cd_gw (Cond.fieldLink y.cls idx (q.2.1 fk).1 (q.2.1 fk).2.1 (q.2.1 fk).2.2.1) = true) (hd : decode cc pc = .ok (.putfield idx, 3))
    (h : cd_Go G l C Q k n (cd_wO w (32 * ci + fk) a 0 r) (pc + 3) lv rest) : cd_Go G l C Q k n w pc lv (va_rf r :: .ref a :: rest) := by
  have hty := hC.2.2.2.2.2 fk hk
  rw [hr] at hty
  refine g_put O hC fk hk ha ?_ ?_ hfin hl hd (kd_wO w _ a 0 r) (ln_wO w _ a 0 r) (fun _ _ _ _ => rfl) (fun t b j hb => ?_) (fun _ _ _ => rfl) (fun j hj => ?_) h
  · cases hz : ty fk <;> rw [hz] at hty <;> cases r <;> first | rfl | (simp [cd_tR] at hty; done)
  · cases hz : ty fk <;> rw [hz] at hty <;> cases r <;> first | rfl | (simp [cd_tR] at hty; done)
  · rw [O_wO, if_neg (fun z => hb z.2.1)]
  · by_cases e : j = fk
    · subst e
      simp [updV, cd_fv, hr, O_wO]
    · have : ¬ (32 * ci + j = 32 * ci + fk) := by omega
      simp [updV, cd_fv, e, I_wO, O_wO]
theorem g_putS (O : cd_Ok G y cc nL ret ex R C) {ci : Nat} {q : vw_C} {ty : Nat → FieldType} (hC : cd_Cl ci q ty) {a b : Nat} (fk : Nat) {idx : Nat} (hk : fk < q.2.2) (hr : cd_rf ci fk = true) (ha : cd_kd w a = 2 * ci + 2)
    (hfin : (q.2.1 fk).2.2.2 = false ∨ ((q.2.1 fk).2.2.2 = true ∧ y.name = "<init>" ∧ (q.2.1 fk).1 = y.cls))
    (hl : Cond.fieldLink y.cls idx (q.2.1 fk).1 (q.2.1 fk).2.1 (q.2.1 fk).2.2.1 ∈ lw_tbl ∧ cd_gw (Cond.fieldLink y.cls idx (q.2.1 fk).1 (q.2.1 fk).2.1 (q.2.1 fk).2.2.1) = true) (hd : decode cc pc = .ok (.putfield idx, 3))
    (h : cd_Go G l C Q k n (cd_wO w (32 * ci + fk) a 0 (some b)) (pc + 3) lv rest) : cd_Go G l C Q k n w pc lv (.ref b :: .ref a :: rest) :=
  g_putO (r := some b) O hC fk hk hr ha hfin hl hd h
theorem g_new (O : cd_Ok G y cc nL ret ex R C) {ci : Nat} {q : vw_C} {ty : Nat → FieldType} (hC : cd_Cl ci q ty) {idx : Nat} (hl : Cond.classLink y.cls idx q.1 ∈ lw_tbl ∧ cd_gw (Cond.classLink y.cls idx q.1) = true) (hi : Cond.instantiable q.1 q.2.2 ∈ lw_tbl ∧ cd_gw (Cond.instantiable q.1 q.2.2) = true) (hini : Cond.initialized q.1 ∈ lw_tbl ∧ cd_gw (Cond.initialized q.1) = true)
    (hd : decode cc pc = .ok (.new idx, 3)) (h1 : k + 1 ≤ R.cells) (h2 : n + q.2.2 ≤ R.slots) (h : ∀ b, cd_kd w b = 0 → cd_Go G l C Q (k + 1) (n + q.2.2) (cd_wN w b (2 * ci + 2) 0) (pc + 3) lv (.ref b :: rest)) : cd_Go G l C Q k n w pc lv rest := by
  intro H locs ls a1 b1 c1
  have hKn := (cd_K O).1 ci _ hC.1
  have hR := O.2.2.2.2.2.2.2.2.2.1
  refine W.newcK O.1 O.2.1 O.2.2.2.1 (cd_word O hl) (cd_word O hi) (cd_word O hini) rfl hd (by rw [hR]; exact h1) (by rw [hR]; exact h2) hKn.2.1 rfl fun H1 kC hkC e1 z1 o1 => ?_
  have h0 : cd_kd w H.size = 0 := by
    by_cases hz : cd_kd w H.size = 0
    · exact hz
    · exact absurd (a1.lt hz) (Nat.lt_irrefl _)
  refine h H.size h0 H1 locs ls (a1.push z1 o1 (fun c hc => by rw [e1] at hc; cases hc; rfl) ⟨fun ci' hc => ?_, fun i hi => ?_⟩) b1 c1
  · rw [kd_wN, if_pos rfl] at hc
    have hcc : ci' = ci := by omega
    subst hcc
    refine ⟨q, hC.1, (u_born ty (cd_hts O) hC.in hKn hkC e1 hC.2.2.1).to fun j hj => ?_⟩
    have hty := hC.2.2.2.2.2 j hj
    rw [cd_fv, I_wN, O_wN, if_pos rfl, if_pos rfl]
    cases hz : ty j <;> rw [hz] at hty <;> cases hrf : cd_rf ci' j <;> rw [hrf] at hty <;> first | rfl | (simp [cd_tI, cd_tR] at hty; done)
  · rw [kd_wN, if_pos rfl] at hi; omega
/-! ### arrays -/
theorem cd_ArT (O : cd_Ok G y cc nL ret ex R C) {i : Nat} {t : FieldType} (ht : cd_ty[i]? = some t) : ArrOfT (cx_s C) (G.2.1 i) t ∧ va_RA (cx_s C) (G.2.1 i) t := by
  obtain ⟨z, hz⟩ := cd_tys_get (G := G) ht
  exact (cd_K O).2 z _ hz
theorem g_alen (O : cd_Ok G y cc nL ret ex R C) {i a : Nat} {t : FieldType} (ht : cd_ty[i]? = some t) (ha : cd_kd w a = 2 * i + 1) (hd : decode cc pc = .ok (.arraylength, 1)) {v : Int32} (hv : (cd_ln w a).toInt32 = v)
    (h : cd_Go G l C Q k n w (pc + 1) lv (.int v :: rest)) : cd_Go G l C Q k n w pc lv (.ref a :: rest) := by
  intro H locs ls a1 b1 c1
  exact W.alen O.1 O.2.1 (a1.arr ha) ((cd_ArT O ht).1 _ _) (by rw [arrV_size]; exact hv) rfl rfl hd (h H locs ls a1 b1 c1)
theorem g_iald (O : cd_Ok G y cc nL ret ex R C) {a : Nat} (i : Nat) {x : Int32} (ht : cd_ty[i]? = some .int) (hk : cd_tk i = 0) (ha : cd_kd w a = 2 * i + 1) (hin : vp_in x (cd_ln w a)) (hd : decode cc pc = .ok (.iaload, 1))
    (h : cd_Go G l C Q k n w (pc + 1) lv (.int (cd_I w (1000 + i) a x.toNatClampNeg) :: rest)) : cd_Go G l C Q k n w pc lv (.int x :: .ref a :: rest) := by
  intro H locs ls a1 b1 c1
  have hlt : x.toNatClampNeg < cd_ln w a := Nat.not_le.mp fun q => hin (Or.inr q)
  exact W.iald (v := .int (cd_I w (1000 + i) a x.toNatClampNeg)) O.1 O.2.1 (a1.arr ha) ((cd_ArT O ht).1 _ _) (fun q => by cases q) (by rw [arrV_size]; exact hin) (by rw [arrV_read _ _ hlt]; simp [cd_av, hk]) rfl rfl hd (h H locs ls a1 b1 c1)
theorem g_zald (O : cd_Ok G y cc nL ret ex R C) {a : Nat} (i : Nat) {x : Int32} (ht : cd_ty[i]? = some .boolean) (hk : cd_tk i = 0) (ha : cd_kd w a = 2 * i + 1) (hin : vp_in x (cd_ln w a)) (hd : decode cc pc = .ok (.baload, 1))
    (h : cd_Go G l C Q k n w (pc + 1) lv (.int (cd_I w (1000 + i) a x.toNatClampNeg) :: rest)) : cd_Go G l C Q k n w pc lv (.int x :: .ref a :: rest) := by
  intro H locs ls a1 b1 c1
  have hlt : x.toNatClampNeg < cd_ln w a := Nat.not_le.mp fun q => hin (Or.inr q)
  exact W.zald (v := .int (cd_I w (1000 + i) a x.toNatClampNeg)) O.1 O.2.1 (a1.arr ha) ((cd_ArT O ht).1 _ _) (fun q => by cases q) (by rw [arrV_size]; exact hin) (by rw [arrV_read _ _ hlt]; simp [cd_av, hk]) rfl rfl hd (h H locs ls a1 b1 c1)
theorem g_lald (O : cd_Ok G y cc nL ret ex R C) {a : Nat} (i : Nat) {x : Int32} (ht : cd_ty[i]? = some .long) (hk : cd_tk i = 2) (ha : cd_kd w a = 2 * i + 1) (hin : vp_in x (cd_ln w a)) (hd : decode cc pc = .ok (.laload, 1))
    (h : cd_Go G l C Q k n w (pc + 1) lv (.long (cd_J w a x.toNatClampNeg) :: rest)) : cd_Go G l C Q k n w pc lv (.int x :: .ref a :: rest) := by
  intro H locs ls a1 b1 c1
  have hlt : x.toNatClampNeg < cd_ln w a := Nat.not_le.mp fun q => hin (Or.inr q)
  exact W.lald (v := .long (cd_J w a x.toNatClampNeg)) O.1 O.2.1 (a1.arr ha) ((cd_ArT O ht).1 _ _) (fun q => by cases q) (by rw [arrV_size]; exact hin) (by rw [arrV_read _ _ hlt]; simp [cd_av, hk]) rfl rfl hd (h H locs ls a1 b1 c1)
theorem g_aald (O : cd_Ok G y cc nL ret ex R C) {a : Nat} (i : Nat) {x : Int32} {D : String} (ht : cd_ty[i]? = some (.object D)) (hk : cd_tk i = 1) (ha : cd_kd w a = 2 * i + 1) (hin : vp_in x (cd_ln w a)) (hd : decode cc pc = .ok (.aaload, 1))
    (h : cd_Go G l C Q k n w (pc + 1) lv (va_rf (cd_O w (1000 + i) a x.toNatClampNeg) :: rest)) : cd_Go G l C Q k n w pc lv (.int x :: .ref a :: rest) := by
  intro H locs ls a1 b1 c1
  have hlt : x.toNatClampNeg < cd_ln w a := Nat.not_le.mp fun q => hin (Or.inr q)
  exact W.aald (v := va_rf (cd_O w (1000 + i) a x.toNatClampNeg)) (ty := .object D) O.1 O.2.1 (a1.arr ha) ((cd_ArT O ht).1 _ _) rfl (fun q => by cases q) (by rw [arrV_size]; exact hin) (by rw [arrV_read _ _ hlt]; simp [cd_av, hk]) rfl rfl hd (h H locs ls a1 b1 c1)
theorem g_aaldS (O : cd_Ok G y cc nL ret ex R C) {a b : Nat} (i : Nat) {x : Int32} {D : String} (ht : cd_ty[i]? = some (.object D)) (hk : cd_tk i = 1) (ha : cd_kd w a = 2 * i + 1) (hin : vp_in x (cd_ln w a)) (hd : decode cc pc = .ok (.aaload, 1)) (hb : cd_O w (1000 + i) a x.toNatClampNeg = some b)
    (h : cd_Go G l C Q k n w (pc + 1) lv (.ref b :: rest)) : cd_Go G l C Q k n w pc lv (.int x :: .ref a :: rest) :=
  g_aald O i ht hk ha hin hd (by rw [hb]; exact h)
/-- a place of an array of ours is written: what stays -/
theorem cd_ast {G : cd_Gl} {w w' : cd_Wd} {H H' : Heap} {a i j : Nat} {v : Value} (a1 : cd_Hp G w H) (ha : cd_kd w a = 2 * i + 1) (e1 : H'[a]? = some ((arrV (G.2.1 i) (cd_ln w a) (fun j => cd_av w i a j)).setSlot j v)) (e2 : H'.size = H.size) (e3 : ∀ q, q ≠ a → H'[q]? = H[q]?)
    (hk' : ∀ b, cd_kd w' b = cd_kd w b) (hl' : ∀ b, cd_ln w' b = cd_ln w b) (hI : ∀ t b j, b ≠ a → cd_I w' t b j = cd_I w t b j) (hO : ∀ t b j, b ≠ a → cd_O w' t b j = cd_O w t b j) (hJ : ∀ b j, b ≠ a → cd_J w' b j = cd_J w b j)
    (hv : ∀ z, updV (fun j => cd_av w i a j) j v z = cd_av w' i a z) : cd_Hp G w' H' := by
  refine a1.upd e2 e3 (by omega) (fun c hc => ?_) hk' hl' hI hO hJ ⟨fun ci hc => ?_, fun i' hi => ?_⟩
  · rw [e1] at hc
    cases hc
    rfl
  · rw [hk'] at hc; omega
  · rw [hk'] at hi
    have hii : i' = i := by omega
    subst hii
    rw [e1, arrV_store, hl']
    congr 2
    funext z
    exact hv z
theorem g_iast (O : cd_Ok G y cc nL ret ex R C) {a : Nat} (i : Nat) {x v : Int32} (ht : cd_ty[i]? = some .int) (hk : cd_tk i = 0) (ha : cd_kd w a = 2 * i + 1) (hin : vp_in x (cd_ln w a)) (hd : decode cc pc = .ok (.iastore, 1))
    (h : cd_Go G l C Q k n (cd_wI w (1000 + i) a x.toNatClampNeg v) (pc + 1) lv rest) : cd_Go G l C Q k n w pc lv (.int v :: .int x :: .ref a :: rest) := by
  intro H locs ls a1 b1 c1
  refine W.iast O.1 O.2.1 (a1.arr ha) ((cd_ArT O ht).1 _ _) (fun q => by cases q) (by rw [arrV_size]; exact hin) rfl rfl hd fun H' e1 e2 e3 => ?_
  refine h H' _ ls (cd_ast a1 ha e1 e2 e3 (kd_wI w _ a _ v) (ln_wI w _ a _ v) (fun t b j hb => by rw [I_wI, if_neg (fun z => hb z.2.1)]) (fun _ _ _ _ => rfl) (fun _ _ _ => rfl) fun z => ?_) (t_lc b1 (a1.ge (by omega))) c1
  simp only [updV, cd_av, hk, I_wI]
  by_cases e : z = x.toNatClampNeg <;> simp [e]
theorem g_zast (O : cd_Ok G y cc nL ret ex R C) {a : Nat} (i : Nat) {x v : Int32} (ht : cd_ty[i]? = some .boolean) (hk : cd_tk i = 0) (ha : cd_kd w a = 2 * i + 1) (hin : vp_in x (cd_ln w a)) (hv : v = 0 ∨ v = 1) (hd : decode cc pc = .ok (.bastore, 1))
    (h : cd_Go G l C Q k n (cd_wI w (1000 + i) a x.toNatClampNeg v) (pc + 1) lv rest) : cd_Go G l C Q k n w pc lv (.int v :: .int x :: .ref a :: rest) := by
  intro H locs ls a1 b1 c1
  have hnv : narrow .boolean (.int v) = .int v := by rcases hv with rfl | rfl <;> rfl
  refine W.zast O.1 O.2.1 (a1.arr ha) ((cd_ArT O ht).1 _ _) (fun q => by cases q) (by rw [arrV_size]; exact hin) rfl rfl hd fun H' e1 e2 e3 => ?_
  rw [hnv] at e1
  refine h H' _ ls (cd_ast a1 ha e1 e2 e3 (kd_wI w _ a _ v) (ln_wI w _ a _ v) (fun t b j hb => by rw [I_wI, if_neg (fun z => hb z.2.1)]) (fun _ _ _ _ => rfl) (fun _ _ _ => rfl) fun z => ?_) (t_lc b1 (a1.ge (by omega))) c1
  simp only [updV, cd_av, hk, I_wI]
  by_cases e : z = x.toNatClampNeg <;> simp [e]
theorem g_last (O : cd_Ok G y cc nL ret ex R C) {a : Nat} (i : Nat) {x : Int32} {v : Int64} (ht : cd_ty[i]? = some .long) (hk : cd_tk i = 2) (ha : cd_kd w a = 2 * i + 1) (hin : vp_in x (cd_ln w a)) (hd : decode cc pc = .ok (.lastore, 1))
    (h : cd_Go G l C Q k n (cd_wJ w a x.toNatClampNeg v) (pc + 1) lv rest) : cd_Go G l C Q k n w pc lv (.long v :: .int x :: .ref a :: rest) := by
  intro H locs ls a1 b1 c1
  refine W.last O.1 O.2.1 (a1.arr ha) ((cd_ArT O ht).1 _ _) (fun q => by cases q) (by rw [arrV_size]; exact hin) rfl rfl hd fun H' e1 e2 e3 => ?_
  refine h H' _ ls (cd_ast a1 ha e1 e2 e3 (kd_wJ w a _ v) (ln_wJ w a _ v) (fun _ _ _ _ => rfl) (fun _ _ _ _ => rfl) (fun b j hb => by rw [J_wJ, if_neg (fun z => hb z.1)]) fun z => ?_) (t_lc b1 (a1.ge (by omega))) c1
  simp only [updV, cd_av, hk, J_wJ]
  by_cases e : z = x.toNatClampNeg <;> simp [e]
theorem g_aast (O : cd_Ok G y cc nL ret ex R C) {a b : Nat} (i ci : Nat) {x : Int32} {q : vw_C} (ht : cd_ty[i]? = some (.object q.1)) (hk : cd_tk i = 1) (hc : cd_cls[ci]? = some q) (ha : cd_kd w a = 2 * i + 1) (hb : cd_kd w b = 2 * ci + 2) (hin : vp_in x (cd_ln w a)) (hd : decode cc pc = .ok (.aastore, 1))
    (h : cd_Go G l C Q k n (cd_wO w (1000 + i) a x.toNatClampNeg (some b)) (pc + 1) lv rest) : cd_Go G l C Q k n w pc lv (.ref b :: .int x :: .ref a :: rest) := by
  intro H locs ls a1 b1 c1
  have hlt : x.toNatClampNeg < cd_ln w a := Nat.not_le.mp fun q => hin (Or.inr q)
  have h0 : ¬ x < 0 := fun q => hin (Or.inl q)
  obtain ⟨cellV, g1, g2, g3, -⟩ := a1.obj hb hc
  have hcls := ((cd_K O).1 ci _ hc).2
  obtain ⟨kA, comp, k1, k2, k3, -⟩ := (cd_ArT O ht).2
  have hcomp : comp = G.1.1 ci := Option.some.inj (k3.symm.trans hcls.1)
  subst hcomp
  obtain ⟨kC, hkC, -⟩ := hcls.2
  refine W.aast O.1 O.2.1 (a1.arr ha) (fun q h => by cases h) (fun h => by cases h) k1 k2 rfl hkC ⟨h0, by rw [arrV_size]; exact hlt⟩ g1 (fun q h => by rw [g3] at h; cases h) (by rw [g2]; exact hkC) (by rw [g2]; exact va_assign hcls) rfl rfl hd fun H' e1 e2 e3 => ?_
  refine h H' _ ls (cd_ast a1 ha e1 e2 e3 (kd_wO w _ a _ (some b)) (ln_wO w _ a _ (some b)) (fun _ _ _ _ => rfl) (fun t b j hb => by rw [O_wO, if_neg (fun z => hb z.2.1)]) (fun _ _ _ => rfl) fun z => ?_) (t_lc b1 (a1.ge (by omega))) c1
  simp only [updV, cd_av, hk, O_wO]
  by_cases e : z = x.toNatClampNeg <;> simp [e, va_rf]
theorem g_aastN (O : cd_Ok G y cc nL ret ex R C) {a : Nat} (i : Nat) {x : Int32} {D : String} (ht : cd_ty[i]? = some (.object D)) (hk : cd_tk i = 1) (ha : cd_kd w a = 2 * i + 1) (hin : vp_in x (cd_ln w a)) (hd : decode cc pc = .ok (.aastore, 1))
    (h : cd_Go G l C Q k n (cd_wO w (1000 + i) a x.toNatClampNeg none) (pc + 1) lv rest) : cd_Go G l C Q k n w pc lv (va_rf none :: .int x :: .ref a :: rest) := by
  intro H locs ls a1 b1 c1
  refine va_WaastN (C := D) O.1 O.2.1 (a1.arr ha) ((cd_ArT O ht).1 _ _) (fun h => by cases h) (by rw [arrV_size]; exact hin) rfl rfl hd fun H' e1 e2 e3 => ?_
  refine h H' _ ls (cd_ast a1 ha e1 e2 e3 (kd_wO w _ a _ none) (ln_wO w _ a _ none) (fun _ _ _ _ => rfl) (fun t b j hb => by rw [O_wO, if_neg (fun z => hb z.2.1)]) (fun _ _ _ => rfl) fun z => ?_) (t_lc b1 (a1.ge (by omega))) c1
  simp only [updV, cd_av, hk, O_wO]
  by_cases e : z = x.toNatClampNeg <;> simp [e, va_rf]
/-- a reference that may be null goes into an array -/
theorem g_aastq (O : cd_Ok G y cc nL ret ex R C) {a : Nat} {r : Option Nat} (i ci : Nat) {x : Int32} {q : vw_C} (ht : cd_ty[i]? = some (.object q.1)) (hk : cd_tk i = 1) (hc : cd_cls[ci]? = some q) (ha : cd_kd w a = 2 * i + 1) (hb : ∀ b, r = some b → cd_kd w b = 2 * ci + 2) (hin : vp_in x (cd_ln w a)) (hd : decode cc pc = .ok (.aastore, 1))
    (h : cd_Go G l C Q k n (cd_wO w (1000 + i) a x.toNatClampNeg r) (pc + 1) lv rest) : cd_Go G l C Q k n w pc lv (va_rf r :: .int x :: .ref a :: rest) := by
  cases r with
  | none => exact g_aastN O i ht hk ha hin hd h
  | some b => exact g_aast O i ci ht hk hc ha (hb b rfl) hin hd h
theorem g_newa (O : cd_Ok G y cc nL ret ex R C) (i : Nat) {at' : ArrayType} {t : FieldType} {x : Int32} {N : Nat} (hat : newarray.typeOf at' = t) (ht : cd_ty[i]? = some t) (hkk : (cd_tk i = 0 ∧ defaultValue t = .int 0) ∨ (cd_tk i = 2 ∧ defaultValue t = .long 0)) (hd : decode cc pc = .ok (.newarray at', 2)) (hx : ¬ x < 0) (hN : x.toNatClampNeg = N) (hby : N * componentBytes t ≤ 536870912) (h1 : k + 1 ≤ R.cells) (h2 : n + N ≤ R.slots)
    (h : ∀ b, cd_kd w b = 0 → cd_Go G l C Q (k + 1) (n + N) (cd_wN w b (2 * i + 1) N) (pc + 2) lv (.ref b :: rest)) : cd_Go G l C Q k n w pc lv (.int x :: rest) := by
  subst hat
  intro H locs ls a1 b1 c1
  have hR := O.2.2.2.2.2.2.2.2.2.1
  have hac : (Cond.arrayClass (newarray.typeOf at')).before (cx_a C) (cx_s C) = true := by
    have h3 := O.2.2.2.2.2.2.2.1.2.2.1 i _ ht
    cases at' <;> exact h3
  have hcA : (cx_s C).vm.findClass ("[" ++ (newarray.typeOf at').toString) = some (G.2.1 i) := by
    have h3 := (cd_ArT O ht).2
    cases at' <;> exact h3
  refine va_newaK O.1 O.2.1 hac rfl hd rfl hx hN hby (by rw [hR]; exact h1) (by rw [hR]; exact h2) rfl fun H1 cA e1 z1 o1 _ hNm => ?_
  cases Option.some.inj (hNm.symm.trans hcA)
  have h0 : cd_kd w H.size = 0 := by
    by_cases hz : cd_kd w H.size = 0
    · exact hz
    · exact absurd (a1.lt hz) (Nat.lt_irrefl _)
  refine h H.size h0 H1 locs ls (a1.push z1 o1 (fun c hc => by rw [e1] at hc; cases hc; rfl) ⟨fun ci hc => ?_, fun i' hi => ?_⟩) b1 c1
  · rw [kd_wN, if_pos rfl] at hc; omega
  · rw [kd_wN, if_pos rfl] at hi
    have hii : i' = i := by omega
    subst hii
    rw [e1, ln_wN, if_pos rfl]
    congr 2
    funext j
    rcases hkk with ⟨hk0, hdv⟩ | ⟨hk0, hdv⟩ <;> rw [hdv] <;> simp [cd_av, hk0, I_wN, J_wN]
theorem g_anew (O : cd_Ok G y cc nL ret ex R C) (i : Nat) {D : String} {idx : Nat} {x : Int32} {N : Nat} (ht : cd_ty[i]? = some (.object D)) (hkk : cd_tk i = 1) (hl : Cond.classLink y.cls idx D ∈ lw_tbl ∧ cd_gw (Cond.classLink y.cls idx D) = true) (hd : decode cc pc = .ok (.anewarray idx, 3)) (hx : ¬ x < 0) (hN : x.toNatClampNeg = N) (hby : N * 4 ≤ 536870912) (h1 : k + 1 ≤ R.cells) (h2 : n + N ≤ R.slots)
    (h : ∀ b, cd_kd w b = 0 → cd_Go G l C Q (k + 1) (n + N) (cd_wN w b (2 * i + 1) N) (pc + 3) lv (.ref b :: rest)) : cd_Go G l C Q k n w pc lv (.int x :: rest) := by
  subst hN
  intro H locs ls a1 b1 c1
  have hR := O.2.2.2.2.2.2.2.2.2.1
  have hov : va_AO D (cx_s C) := O.2.2.2.2.2.2.2.1.2.2.1 i _ ht
  obtain ⟨kA, comp, k1, k2, k3, k4⟩ := (cd_ArT O ht).2
  refine W.anew O.1 O.2.1 O.2.2.2.1 (cd_word O hl) (va_AO.use hov) rfl hd rfl hx hby (by rw [hR]; exact h1) (by rw [hR]; exact h2) fun cA kA' comp' f1 f2 f3 f4 => ?_
  cases Option.some.inj (f1.symm.trans k4)
  generalize hH1 : H.push ({ cls := G.2.1 i, slots := Array.replicate x.toNatClampNeg .null, vm := .none } : Cell) = H1
  have z1 : H1.size = H.size + 1 := by rw [← hH1, Array.size_push]
  have e1 : H1[H.size]? = some (arrV (G.2.1 i) x.toNatClampNeg (fun _ => .null)) := by rw [← hH1, Array.getElem?_push_size, ← arrV_new]
  have o1 : ∀ q : Nat, q < H.size → H1[q]? = H[q]? := fun q hq => by rw [← hH1, Array.getElem?_push, if_neg (Nat.ne_of_lt hq)]
  have h0 : cd_kd w H.size = 0 := by
    by_cases hz : cd_kd w H.size = 0
    · exact hz
    · exact absurd (a1.lt hz) (Nat.lt_irrefl _)
  refine h H.size h0 H1 locs ls (a1.push z1 o1 (fun c hc => by rw [e1] at hc; cases hc; rfl) ⟨fun ci hc => ?_, fun i' hi => ?_⟩) b1 c1
  · rw [kd_wN, if_pos rfl] at hc; omega
  · rw [kd_wN, if_pos rfl] at hi
    have hii : i' = i := by omega
    subst hii
    rw [e1, ln_wN, if_pos rfl]
    congr 2
    funext j
    simp [cd_av, hkk, O_wN, va_rf]
/-- the script -/
theorem g_sld (O : cd_Ok G y cc nL ret ex R C) {b L : Nat} {xs : Nat → Int32} {x : Int32} (hX : va_X b L xs (cx_s C) G.2.2) (hb : b < G.2.2.size) (hin : vp_in x L) (hd : decode cc pc = .ok (.iaload, 1))
    (h : cd_Go G l C Q k n w (pc + 1) lv (.int (xs x.toNatClampNeg) :: rest)) : cd_Go G l C Q k n w pc lv (.int x :: .ref b :: rest) := by
  intro H locs ls a1 b1 c1
  obtain ⟨scr, h1, h2, h3, h4, h5⟩ := hX
  have hlt : x.toNatClampNeg < L := Nat.not_le.mp fun q => hin (Or.inr q)
  exact W.iald (v := .int (xs x.toNatClampNeg)) O.1 O.2.1 (by rw [a1.2.1 b hb]; exact h1) h2 h3 (by rw [h4]; exact hin) (h5 _ hlt) rfl rfl hd (h H locs ls a1 b1 c1)
theorem g_slen (O : cd_Ok G y cc nL ret ex R C) {b L : Nat} {xs : Nat → Int32} (hX : va_X b L xs (cx_s C) G.2.2) (hb : b < G.2.2.size) (hd : decode cc pc = .ok (.arraylength, 1))
    (h : cd_Go G l C Q k n w (pc + 1) lv (.int (nI L) :: rest)) : cd_Go G l C Q k n w pc lv (.ref b :: rest) := by
  intro H locs ls a1 b1 c1
  obtain ⟨scr, h1, h2, h3, h4, h5⟩ := hX
  exact W.alen O.1 O.2.1 (by rw [a1.2.1 b hb]; exact h1) h2 (by rw [h4]; rfl) rfl rfl hd (h H locs ls a1 b1 c1)
theorem g_lcmp (O : cd_Ok G y cc nL ret ex R C) {x z : Int64} (hd : decode cc pc = .ok (.lcmp, 1)) (h : cd_Go G l C Q k n w (pc + 1) lv (.int (lg_cmp x z) :: rest)) : cd_Go G l C Q k n w pc lv (.long z :: .long x :: rest) :=
  fun H locs ls a b c => W.lcmp O.1 O.2.1 hd (h H locs ls a b c)
end Rows
