/-! ===== THE WORLD AS FUNCTIONS: what the heap holds of our objects and arrays, by tag, address and place =====
kind of an address: 0 none of ours; 2 * ci + 2 an object of class ci of cd_cls; 2 * i + 1 an array of type i of cd_ty.
tag of a field: 32 * ci + k (slot k of class ci); tag of an array's places: 1000 + i -/
abbrev cd_Wd : Type := (Nat → Nat) × (Nat → Nat) × (Nat → Nat → Nat → Int32) × (Nat → Nat → Nat → Option Nat) × (Nat → Nat → Int64)
def cd_kd (w : cd_Wd) (a : Nat) : Nat := w.1 a
def cd_ln (w : cd_Wd) (a : Nat) : Nat := w.2.1 a
def cd_I (w : cd_Wd) (t a j : Nat) : Int32 := w.2.2.1 t a j
def cd_O (w : cd_Wd) (t a j : Nat) : Option Nat := w.2.2.2.1 t a j
def cd_J (w : cd_Wd) (a j : Nat) : Int64 := w.2.2.2.2 a j
def cd_wI (w : cd_Wd) (t a j : Nat) (v : Int32) : cd_Wd := (w.1, w.2.1, fun t' a' j' => if t' = t ∧ a' = a ∧ j' = j then v else w.2.2.1 t' a' j', w.2.2.2.1, w.2.2.2.2)
def cd_wO (w : cd_Wd) (t a j : Nat) (v : Option Nat) : cd_Wd := (w.1, w.2.1, w.2.2.1, fun t' a' j' => if t' = t ∧ a' = a ∧ j' = j then v else w.2.2.2.1 t' a' j', w.2.2.2.2)
def cd_wJ (w : cd_Wd) (a j : Nat) (v : Int64) : cd_Wd := (w.1, w.2.1, w.2.2.1, w.2.2.2.1, fun a' j' => if a' = a ∧ j' = j then v else w.2.2.2.2 a' j')
def cd_wN (w : cd_Wd) (q k n : Nat) : cd_Wd := (fun a => if a = q then k else w.1 a, fun a => if a = q then n else w.2.1 a, fun t a j => if a = q then 0 else w.2.2.1 t a j, fun t a j => if a = q then none else w.2.2.2.1 t a j, fun a j => if a = q then 0 else w.2.2.2.2 a j)
section
variable (w : cd_Wd) (t a j : Nat)
theorem kd_wI (v : Int32) (x : Nat) : cd_kd (cd_wI w t a j v) x = cd_kd w x := rfl
theorem kd_wO (v : Option Nat) (x : Nat) : cd_kd (cd_wO w t a j v) x = cd_kd w x := rfl
theorem kd_wJ (v : Int64) (x : Nat) : cd_kd (cd_wJ w a j v) x = cd_kd w x := rfl
theorem kd_wN (k n x : Nat) : cd_kd (cd_wN w a k n) x = if x = a then k else cd_kd w x := rfl
theorem ln_wI (v : Int32) (x : Nat) : cd_ln (cd_wI w t a j v) x = cd_ln w x := rfl
theorem ln_wO (v : Option Nat) (x : Nat) : cd_ln (cd_wO w t a j v) x = cd_ln w x := rfl
theorem ln_wJ (v : Int64) (x : Nat) : cd_ln (cd_wJ w a j v) x = cd_ln w x := rfl
theorem ln_wN (k n x : Nat) : cd_ln (cd_wN w a k n) x = if x = a then n else cd_ln w x := rfl
theorem I_wI (v : Int32) (t' a' j' : Nat) : cd_I (cd_wI w t a j v) t' a' j' = if t' = t ∧ a' = a ∧ j' = j then v else cd_I w t' a' j' := rfl
theorem I_wO (v : Option Nat) (t' a' j' : Nat) : cd_I (cd_wO w t a j v) t' a' j' = cd_I w t' a' j' := rfl
theorem I_wJ (v : Int64) (t' a' j' : Nat) : cd_I (cd_wJ w a j v) t' a' j' = cd_I w t' a' j' := rfl
theorem I_wN (k n t' a' j' : Nat) : cd_I (cd_wN w a k n) t' a' j' = if a' = a then 0 else cd_I w t' a' j' := rfl
theorem O_wI (v : Int32) (t' a' j' : Nat) : cd_O (cd_wI w t a j v) t' a' j' = cd_O w t' a' j' := rfl
theorem O_wO (v : Option Nat) (t' a' j' : Nat) : cd_O (cd_wO w t a j v) t' a' j' = if t' = t ∧ a' = a ∧ j' = j then v else cd_O w t' a' j' := rfl
theorem O_wJ (v : Int64) (t' a' j' : Nat) : cd_O (cd_wJ w a j v) t' a' j' = cd_O w t' a' j' := rfl
theorem O_wN (k n t' a' j' : Nat) : cd_O (cd_wN w a k n) t' a' j' = if a' = a then none else cd_O w t' a' j' := rfl
theorem J_wI (v : Int32) (a' j' : Nat) : cd_J (cd_wI w t a j v) a' j' = cd_J w a' j' := rfl
theorem J_wO (v : Option Nat) (a' j' : Nat) : cd_J (cd_wO w t a j v) a' j' = cd_J w a' j' := rfl
theorem J_wJ (v : Int64) (a' j' : Nat) : cd_J (cd_wJ w a j v) a' j' = if a' = a ∧ j' = j then v else cd_J w a' j' := rfl
theorem J_wN (k n a' j' : Nat) : cd_J (cd_wN w a k n) a' j' = if a' = a then 0 else cd_J w a' j' := rfl
end
/-- what a field, a place holds -/
def cd_fv (w : cd_Wd) (ci k a : Nat) : Value := if cd_rf ci k then va_rf (cd_O w (32 * ci + k) a 0) else .int (cd_I w (32 * ci + k) a 0)
def cd_av (w : cd_Wd) (i a j : Nat) : Value := match cd_tk i with
  | 0 => .int (cd_I w (1000 + i) a j)
  | 1 => va_rf (cd_O w (1000 + i) a j)
  | _ => .long (cd_J w a j)
/-- what is fixed for a whole run: the classes' numbers and slots, the array classes' numbers, the heap at its start -/
abbrev cd_Gl : Type := va_G × (Nat → ClassId) × Heap
def cd_At (G : cd_Gl) (w : cd_Wd) (H : Heap) (a : Nat) : Prop :=
  (∀ ci, cd_kd w a = 2 * ci + 2 → ∃ q : vw_C, cd_cls[ci]? = some q ∧ t_OB a (G.1.1 ci) q.2.2 (G.1.2 ci) H (fun k => cd_fv w ci k a)) ∧
  (∀ i, cd_kd w a = 2 * i + 1 → H[a]? = some (arrV (G.2.1 i) (cd_ln w a) (fun j => cd_av w i a j)))
def cd_Hp (G : cd_Gl) (w : cd_Wd) (H : Heap) : Prop :=
  G.2.2.size ≤ H.size ∧ (∀ q, q < G.2.2.size → H[q]? = G.2.2[q]?) ∧ (∀ (a : Nat) (c : Cell), G.2.2.size ≤ a → H[a]? = some c → c.vm.isStatics = false) ∧
  ∀ a, cd_kd w a ≠ 0 → G.2.2.size ≤ a ∧ a < H.size ∧ cd_At G w H a
theorem cd_Hp.lt {G : cd_Gl} {w : cd_Wd} {H : Heap} (h : cd_Hp G w H) {a : Nat} (ha : cd_kd w a ≠ 0) : a < H.size := (h.2.2.2 a ha).2.1
theorem cd_Hp.ge {G : cd_Gl} {w : cd_Wd} {H : Heap} (h : cd_Hp G w H) {a : Nat} (ha : cd_kd w a ≠ 0) : G.2.2.size ≤ a := (h.2.2.2 a ha).1
theorem cd_Hp.obj {G : cd_Gl} {w : cd_Wd} {H : Heap} (h : cd_Hp G w H) {a ci : Nat} (ha : cd_kd w a = 2 * ci + 2) {q : vw_C} (hq : cd_cls[ci]? = some q) : t_OB a (G.1.1 ci) q.2.2 (G.1.2 ci) H (fun k => cd_fv w ci k a) := by
  obtain ⟨-, -, h3⟩ := h.2.2.2 a (by omega)
  obtain ⟨q', e1, e2⟩ := h3.1 ci ha
  cases Option.some.inj (e1.symm.trans hq)
  exact e2
theorem cd_Hp.arr {G : cd_Gl} {w : cd_Wd} {H : Heap} (h : cd_Hp G w H) {a i : Nat} (ha : cd_kd w a = 2 * i + 1) : H[a]? = some (arrV (G.2.1 i) (cd_ln w a) (fun j => cd_av w i a j)) := (h.2.2.2 a (by omega)).2.2.2 i ha
/-- a cell that isn't touched keeps what it holds, if the world says the same of it -/
theorem cd_At.kept {G : cd_Gl} {w w' : cd_Wd} {H H' : Heap} {a : Nat} (h : cd_At G w H a) (hq : H'[a]? = H[a]?) (hk : cd_kd w' a = cd_kd w a) (hl : cd_ln w' a = cd_ln w a)
    (hI : ∀ t j, cd_I w' t a j = cd_I w t a j) (hO : ∀ t j, cd_O w' t a j = cd_O w t a j) (hJ : ∀ j, cd_J w' a j = cd_J w a j) : cd_At G w' H' a := by
  refine ⟨fun ci hc => ?_, fun i hi => ?_⟩
  · obtain ⟨q, e1, e2⟩ := h.1 ci (hk ▸ hc)
    refine ⟨q, e1, (e2.kept hq).to fun k _ => ?_⟩
    simp only [cd_fv, hI, hO]
  · rw [hq, h.2 i (hk ▸ hi), hl]
    congr 2
    funext j
    simp only [cd_av, hI, hO, hJ]
/-- one cell of ours changes -/
theorem cd_Hp.upd {G : cd_Gl} {w w' : cd_Wd} {H H' : Heap} {a : Nat} (h : cd_Hp G w H) (hz : H'.size = H.size) (ho : ∀ q, q ≠ a → H'[q]? = H[q]?) (ha : cd_kd w a ≠ 0) (hs : ∀ c, H'[a]? = some c → c.vm.isStatics = false)
    (hk : ∀ b, cd_kd w' b = cd_kd w b) (hl : ∀ b, cd_ln w' b = cd_ln w b) (hI : ∀ t b j, b ≠ a → cd_I w' t b j = cd_I w t b j) (hO : ∀ t b j, b ≠ a → cd_O w' t b j = cd_O w t b j) (hJ : ∀ b j, b ≠ a → cd_J w' b j = cd_J w b j)
    (hat : cd_At G w' H' a) : cd_Hp G w' H' := by
  obtain ⟨h1, h2, h3, h4⟩ := id h
  have hge := h.ge ha
  refine ⟨by omega, fun q hq => ?_, fun b c hb hc => ?_, fun b hb => ?_⟩
  · rw [ho q (by omega)]; exact h2 q hq
  · by_cases e : b = a
    · subst e; exact hs c hc
    · rw [ho b e] at hc; exact h3 b c hb hc
  · rw [hk] at hb
    obtain ⟨g1, g2, g3⟩ := h4 b hb
    refine ⟨g1, by omega, ?_⟩
    by_cases e : b = a
    · subst e; exact hat
    · exact g3.kept (ho b e) (hk b) (hl b) (fun t j => hI t b j e) (fun t j => hO t b j e) (fun j => hJ b j e)
/-- a cell of no kind of ours comes (an exception) -/
theorem cd_Hp.grow {G : cd_Gl} {w : cd_Wd} {H H' : Heap} (h : cd_Hp G w H) (hz : H.size ≤ H'.size) (ho : ∀ q, q < H.size → H'[q]? = H[q]?) (hs : ∀ (q : Nat) (c : Cell), H.size ≤ q → H'[q]? = some c → c.vm.isStatics = false) : cd_Hp G w H' := by
  obtain ⟨h1, h2, h3, h4⟩ := id h
  refine ⟨by omega, fun q hq => ?_, fun b c hb hc => ?_, fun b hb => ?_⟩
  · rw [ho q (by omega)]; exact h2 q hq
  · by_cases e : b < H.size
    · rw [ho b e] at hc; exact h3 b c hb hc
    · exact hs b c (by omega) hc
  · obtain ⟨g1, g2, g3⟩ := h4 b hb
    exact ⟨g1, by omega, g3.kept (ho b g2) rfl rfl (fun _ _ => rfl) (fun _ _ => rfl) (fun _ => rfl)⟩
/-- a new cell of ours -/
theorem cd_Hp.push {G : cd_Gl} {w : cd_Wd} {H H' : Heap} {k n : Nat} (h : cd_Hp G w H) (hz : H'.size = H.size + 1) (ho : ∀ q, q < H.size → H'[q]? = H[q]?) (hs : ∀ c, H'[H.size]? = some c → c.vm.isStatics = false) (hat : cd_At G (cd_wN w H.size k n) H' H.size) : cd_Hp G (cd_wN w H.size k n) H' := by
  obtain ⟨h1, h2, h3, h4⟩ := id h
  refine ⟨by omega, fun q hq => ?_, fun b c hb hc => ?_, fun b hb => ?_⟩
  · rw [ho q (by omega)]; exact h2 q hq
  · by_cases e : b < H.size
    · rw [ho b e] at hc; exact h3 b c hb hc
    · by_cases e2 : b = H.size
      · subst e2; exact hs c hc
      · exfalso
        have := (Array.getElem?_eq_some_iff.mp hc).1
        omega
  · by_cases e : b = H.size
    · subst e; exact ⟨h1, by omega, hat⟩
    · rw [kd_wN, if_neg e] at hb
      obtain ⟨g1, g2, g3⟩ := h4 b hb
      refine ⟨g1, by omega, g3.kept (ho b g2) ?_ ?_ ?_ ?_ ?_⟩
      · rw [kd_wN, if_neg e]
      · rw [ln_wN, if_neg e]
      · intro t j; rw [I_wN, if_neg e]
      · intro t j; rw [O_wN, if_neg e]
      · intro j; rw [J_wN, if_neg e]
/-! ===== locals ===== -/
def cd_Lo (ls : Array Slot) (lv : List (Option Value)) : Prop := ls.size = lv.length ∧ lv_wf ls ∧ ∀ (i : Nat) (v : Value), lv[i]? = some (some v) → ls[i]? = some (.val v) ∧ v.category = 1
def cd_es (lv : List (Option Value)) : List (Nat × Value) := (List.range lv.length).filterMap fun i => match lv[i]? with
  | some (some v) => some (i, v)
  | _ => none
theorem cd_es_mem {lv : List (Option Value)} {i : Nat} {v : Value} : (i, v) ∈ cd_es lv ↔ lv[i]? = some (some v) := by
  simp only [cd_es, List.mem_filterMap, List.mem_range]
  constructor
  · rintro ⟨j, hj, h⟩
    split at h
    · next w hw => cases h; exact hw
    · cases h
  · intro h
    have hl : i < lv.length := (List.getElem?_eq_some_iff.mp h).1
    exact ⟨i, hl, by rw [h]⟩
theorem cd_Lo.has {ls : Array Slot} {lv : List (Option Value)} (h : cd_Lo ls lv) : lv_has ls lv.length (cd_es lv) := ⟨h.1, h.2.1, fun q hq => (h.2.2 q.1 q.2 (cd_es_mem.mp hq)).1⟩
theorem cd_Lo.set {ls ls' : Array Slot} {lv : List (Option Value)} {i : Nat} {v : Value} (h : cd_Lo ls lv) (hc : v.category = 1) (h' : lv_has ls' lv.length ((i, v) :: (cd_es lv).filter (fun q => !(q.1 == i) && !(q.1 + 1 == i && q.2.category == 2)))) : cd_Lo ls' (lv.set i (some v)) := by
  refine ⟨by rw [List.length_set]; exact h'.1, h'.2.1, fun j u hj => ?_⟩
  by_cases e : j = i
  · subst e
    have hl : j < (lv.set j (some v)).length := (List.getElem?_eq_some_iff.mp hj).1
    rw [List.length_set] at hl
    rw [List.getElem?_set_self hl] at hj
    cases hj
    exact ⟨h'.2.2 (j, v) List.mem_cons_self, hc⟩
  · rw [List.getElem?_set_ne (Ne.symm e)] at hj
    have hu := (h.2.2 j u hj).2
    refine ⟨h'.2.2 (j, u) (List.mem_cons_of_mem _ (List.mem_filter.mpr ⟨cd_es_mem.mpr hj, ?_⟩)), hu⟩
    simp [e, hu]
theorem cd_Lo.entry {vs : List Value} {n : Nat} (h1 : ∀ v ∈ vs, v.category = 1) (hn : vs.length ≤ n) : cd_Lo ((lg_sl vs ++ List.replicate (n - (lg_sl vs).length) Slot.unset).toArray) (vs.map some ++ List.replicate (n - vs.length) none) := by
  have hsl : ∀ us : List Value, (∀ v ∈ us, v.category = 1) → lg_sl us = us.map Slot.val := by
    intro us
    induction us with
    | nil => intro _; rfl
    | cons u us ih =>
      intro hu
      have h2 : u.category = 1 := hu u List.mem_cons_self
      have h3 := ih fun v hv => hu v (List.mem_cons_of_mem _ hv)
      simp only [lg_sl, List.flatMap_cons, h2] at h3 ⊢
      simp [h3]
  have hl : (lg_sl vs).length = vs.length := by rw [hsl vs h1, List.length_map]
  have e := lv_entry vs (n := n) (by rw [hl]; exact hn)
  refine ⟨?_, e.2.1, fun i v hi => ?_⟩
  · rw [e.1, List.length_append, List.length_map, List.length_replicate]; omega
  · by_cases hlt : i < vs.length
    · rw [List.getElem?_append_left (by simpa using hlt), List.getElem?_map] at hi
      cases hv : vs[i]? with
      | none => rw [hv] at hi; cases hi
      | some u =>
        rw [hv] at hi
        cases hi
        refine ⟨?_, h1 _ (List.mem_of_getElem? hv)⟩
        rw [hsl vs h1, List.getElem?_toArray, List.getElem?_append_left (by simpa using hlt), List.getElem?_map, hv]
        rfl
    · rw [List.getElem?_append_right (by simpa using Nat.le_of_not_lt hlt)] at hi
      have := List.eq_of_mem_replicate (List.mem_of_getElem? hi)
      cases this
