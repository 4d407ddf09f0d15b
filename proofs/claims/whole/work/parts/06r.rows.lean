/-! ===== reads whose value is known under another name ===== -/
section RowsV
variable {G : cd_Gl} {l : Launch} {C : cd_Cx} {Q : State → Prop} {k n : Nat} {w : cd_Wd} {pc : Nat} {lv : List (Option Value)} {rest : List Value} {y : MethodName} {cc : ByteArray} {nL : Nat} {ret : Option FieldType} {ex : List (Nat × Nat × Nat × Nat)} {R : Room}
theorem g_getV (O : cd_Ok G y cc nL ret ex R C) {ci : Nat} {q : vw_C} {ty : Nat → FieldType} (hC : cd_Cl ci q ty) {a : Nat} (fk : Nat) {idx : Nat} (hk : fk < q.2.2) (hr : cd_rf ci fk = false) (ha : cd_kd w a = 2 * ci + 2)
    (hl : Cond.fieldLink y.cls idx (q.2.1 fk).1 (q.2.1 fk).2.1 (q.2.1 fk).2.2.1 ∈ lw_tbl ∧ cd_gw (Cond.fieldLink y.cls idx (q.2.1 fk).1 (q.2.1 fk).2.1 (q.2.1 fk).2.2.1) = true) (hd : decode cc pc = .ok (.getfield idx, 3)) {v : Int32} (hv : cd_I w (32 * ci + fk) a 0 = v)
    (h : cd_Go G l C Q k n w (pc + 3) lv (.int v :: rest)) : cd_Go G l C Q k n w pc lv (.ref a :: rest) := by
  subst hv
  exact g_getI O hC fk hk hr ha hl hd h
theorem g_getOV (O : cd_Ok G y cc nL ret ex R C) {ci : Nat} {q : vw_C} {ty : Nat → FieldType} (hC : cd_Cl ci q ty) {a : Nat} (fk : Nat) {idx : Nat} (hk : fk < q.2.2) (hr : cd_rf ci fk = true) (ha : cd_kd w a = 2 * ci + 2)
    (hl : Cond.fieldLink y.cls idx (q.2.1 fk).1 (q.2.1 fk).2.1 (q.2.1 fk).2.2.1 ∈ lw_tbl ∧ cd_gw (Cond.fieldLink y.cls idx (q.2.1 fk).1 (q.2.1 fk).2.1 (q.2.1 fk).2.2.1) = true) (hd : decode cc pc = .ok (.getfield idx, 3)) {r : Option Nat} (hv : cd_O w (32 * ci + fk) a 0 = r)
    (h : cd_Go G l C Q k n w (pc + 3) lv (va_rf r :: rest)) : cd_Go G l C Q k n w pc lv (.ref a :: rest) := by
  subst hv
  exact g_getO O hC fk hk hr ha hl hd h
theorem g_ialdV (O : cd_Ok G y cc nL ret ex R C) {a : Nat} (i : Nat) {x : Int32} (ht : cd_ty[i]? = some .int) (hk : cd_tk i = 0) (ha : cd_kd w a = 2 * i + 1) (hin : vp_in x (cd_ln w a)) (hd : decode cc pc = .ok (.iaload, 1)) {v : Int32} (hv : cd_I w (1000 + i) a x.toNatClampNeg = v)
    (h : cd_Go G l C Q k n w (pc + 1) lv (.int v :: rest)) : cd_Go G l C Q k n w pc lv (.int x :: .ref a :: rest) := by
  subst hv
  exact g_iald O i ht hk ha hin hd h
theorem g_zaldV (O : cd_Ok G y cc nL ret ex R C) {a : Nat} (i : Nat) {x : Int32} (ht : cd_ty[i]? = some .boolean) (hk : cd_tk i = 0) (ha : cd_kd w a = 2 * i + 1) (hin : vp_in x (cd_ln w a)) (hd : decode cc pc = .ok (.baload, 1)) {v : Int32} (hv : cd_I w (1000 + i) a x.toNatClampNeg = v)
    (h : cd_Go G l C Q k n w (pc + 1) lv (.int v :: rest)) : cd_Go G l C Q k n w pc lv (.int x :: .ref a :: rest) := by
  subst hv
  exact g_zald O i ht hk ha hin hd h
theorem g_aaldV (O : cd_Ok G y cc nL ret ex R C) {a : Nat} (i : Nat) {x : Int32} {D : String} (ht : cd_ty[i]? = some (.object D)) (hk : cd_tk i = 1) (ha : cd_kd w a = 2 * i + 1) (hin : vp_in x (cd_ln w a)) (hd : decode cc pc = .ok (.aaload, 1)) {r : Option Nat} (hv : cd_O w (1000 + i) a x.toNatClampNeg = r)
    (h : cd_Go G l C Q k n w (pc + 1) lv (va_rf r :: rest)) : cd_Go G l C Q k n w pc lv (.int x :: .ref a :: rest) := by
  subst hv
  exact g_aald O i ht hk ha hin hd h
/-- a number on the stack under another name -/
theorem g_as (x : Int32) {z : Int32} (e : z = x) (h : cd_Go G l C Q k n w pc lv (.int x :: rest)) : cd_Go G l C Q k n w pc lv (.int z :: rest) := by
  subst e
  exact h
/-- a call's two ends, apart -/
theorem cd_two {y' : MethodName} {N mc ms : Nat} {av : List Value} {Q0 : cd_Out → cd_Wd → Prop} (h : cd_Ct G l y' N mc ms av w Q0) (h1 : ∀ v w', Q0 (.inl v) w' → cd_Go G l C Q (k + mc) (n + ms) w' (pc + 3) lv (v.toList ++ rest)) (h2 : ∀ E w', Q0 (.inr E) w' → cd_Gx G l C Q (k + mc) (n + ms) w' pc lv E) :
    cd_Ct G l y' N mc ms av w (fun o w' => match o with
      | .inl v => cd_Go G l C Q (k + mc) (n + ms) w' (pc + 3) lv (v.toList ++ rest)
      | .inr E => cd_Gx G l C Q (k + mc) (n + ms) w' pc lv E) := h.mono fun o w' hq => by
  cases o with
  | inl v => exact h1 v w' hq
  | inr E => exact h2 E w' hq
end RowsV
