/-! ===== the gathering of the reference: a stack in place of the class's calls ===== -/
theorem come_fuel {σ : cd_S} {d : Nat} : ∀ (n n' : Nat) (o : Int32) (acc : List Nat), WfA acc → 12 ≤ n + acc.length → 12 ≤ n' + acc.length → come σ d n o acc = come σ d n' o acc := by
  have full : ∀ (n : Nat) (o : Int32) (acc : List Nat), WfA acc → 12 ≤ acc.length → come σ d n o acc = acc := by
    intro n o acc h hl
    refine come_no fun z => ?_
    obtain ⟨j, hj, rfl, -⟩ := hasO_of z.1
    rw [nI_clamp (by omega)] at z
    have := h.lt hj z.2
    omega
  intro n
  induction n with
  | zero => intro n' o acc h hl _; rw [full n' o acc h (by omega), come]
  | succ n ih =>
    intro n' o acc h hl hl'
    cases n' with
    | zero => rw [full (n + 1) o acc h (by omega), come]
    | succ n' =>
      by_cases hc : hasO σ d o = true ∧ o.toNatClampNeg ∉ acc
      · rw [come, come, if_pos hc, if_pos hc]
        obtain ⟨j, hj, rfl, -⟩ := hasO_of hc.1
        rw [nI_clamp (by omega)] at hc ⊢
        have h1 := h.add hj hc.2
        have inv := itr_invL (s := fun a f => come σ d n (lkI σ d j f) a) (a := acc ++ [j]) 3 (fun k a => WfA a ∧ acc.length + 1 ≤ a.length ∧ a = itr (fun a f => come σ d n' (lkI σ d j f) a) (acc ++ [j]) k) ⟨h1, by simp, rfl⟩ (fun a k hk ⟨a1, a2, a3⟩ => by
          obtain ⟨b1, ⟨t, b2⟩, -⟩ := come_ok (σ := σ) (d := d) n (lkI σ d j k) a a1
          refine ⟨b1, by rw [b2, List.length_append]; omega, ?_⟩
          rw [itr_s, ← a3]
          exact ih n' _ a a1 (by omega) (by omega)) 3 (Nat.le_refl _)
        exact inv.2.2
      · rw [come_no hc, come_no hc]
/-- what one field adds -/
def kid (σ : cd_S) (d : Nat) (acc : List Nat) (o f : Nat) : List Nat := come σ d 12 (lkI σ d o f) acc
/-- what the last r fields add -/
def chi (σ : cd_S) (d : Nat) (o : Nat) : Nat → List Nat → List Nat
  | 0, acc => acc
  | r + 1, acc => chi σ d o r (kid σ d acc o (2 - r))
def fini (σ : cd_S) (d : Nat) : List Nat → List (Nat × Nat) → List Nat
  | acc, [] => acc
  | acc, (o, n) :: st => fini σ d (chi σ d o (3 - n) acc) st
theorem come_chi {σ : cd_S} {d o : Nat} {acc : List Nat} (h : WfA acc) (ho : o < 12) (ht : sT σ d o = true) (hn : o ∉ acc) : come σ d 12 (nI o) acc = chi σ d o 3 (acc ++ [o]) := by
  have hcl : (nI o).toNatClampNeg = o := nI_clamp (by omega)
  rw [come, if_pos ⟨by rw [hasO_nI ho]; exact ht, by rw [hcl]; exact hn⟩, hcl]
  have h1 := h.add ho hn
  have f1 : ∀ a f, WfA a → 1 ≤ a.length → come σ d 11 (lkI σ d o f) a = kid σ d a o f := fun a f ha hl => come_fuel 11 12 _ a ha (by omega) (by omega)
  have g0 : 1 ≤ (acc ++ [o]).length := by simp
  have k0 := come_ok (σ := σ) (d := d) 12 (lkI σ d o 0) (acc ++ [o]) h1
  have l0 : 1 ≤ (kid σ d (acc ++ [o]) o 0).length := by
    obtain ⟨-, ⟨t, e⟩, -⟩ := k0
    rw [kid, e, List.length_append]; omega
  have k1 := come_ok (σ := σ) (d := d) 12 (lkI σ d o 1) (kid σ d (acc ++ [o]) o 0) k0.1
  have l1 : 1 ≤ (kid σ d (kid σ d (acc ++ [o]) o 0) o 1).length := by
    obtain ⟨-, ⟨t, e⟩, -⟩ := k1
    rw [kid, e, List.length_append]; omega
  show come σ d 11 (lkI σ d o 2) (come σ d 11 (lkI σ d o 1) (come σ d 11 (lkI σ d o 0) (acc ++ [o]))) = _
  rw [f1 _ 0 h1 g0, f1 (kid σ d (acc ++ [o]) o 0) 1 k0.1 l0, f1 (kid σ d (kid σ d (acc ++ [o]) o 0) o 1) 2 k1.1 l1]
  rfl
theorem fini_pop {σ : cd_S} {d o : Nat} {acc : List Nat} {st : List (Nat × Nat)} : fini σ d acc ((o, 3) :: st) = fini σ d acc st := rfl
theorem chi_s {σ : cd_S} {d o n : Nat} {acc : List Nat} (hn : n < 3) : chi σ d o (3 - n) acc = chi σ d o (3 - (n + 1)) (kid σ d acc o n) := by
  have e : 3 - n = (3 - (n + 1)) + 1 := by omega
  rw [e, chi]
  congr 2
  omega
theorem fini_no {σ : cd_S} {d o n : Nat} {acc : List Nat} {st : List (Nat × Nat)} (hn : n < 3) (hk : kid σ d acc o n = acc) : fini σ d acc ((o, n) :: st) = fini σ d acc ((o, n + 1) :: st) := by
  rw [fini, chi_s hn, hk, fini]
theorem fini_push {σ : cd_S} {d o n z : Nat} {acc : List Nat} {st : List (Nat × Nat)} (hw : WfA acc) (hn : n < 3) (hl : lkI σ d o n = nI z) (hz : z < 12) (ht : sT σ d z = true) (hza : z ∉ acc) : fini σ d acc ((o, n) :: st) = fini σ d (acc ++ [z]) ((z, 0) :: (o, n + 1) :: st) := by
  have e : kid σ d acc o n = chi σ d z 3 (acc ++ [z]) := by rw [kid, hl]; exact come_chi hw hz ht hza
  rw [fini, chi_s hn, e, fini, fini]
/-- the stack in the reference's arrays -/
def stk (w : cd_Wd) (B : Nat → Nat) : List (Nat × Nat) → Prop
  | [] => True
  | (o, n) :: st => cd_I w 1000 (B 15) st.length = nI o ∧ cd_I w 1000 (B 16) st.length = nI n ∧ stk w B st
theorem stk_cg {w w' : cd_Wd} {B : Nat → Nat} : ∀ {st : List (Nat × Nat)}, stk w B st → (∀ i, i < st.length → cd_I w' 1000 (B 15) i = cd_I w 1000 (B 15) i ∧ cd_I w' 1000 (B 16) i = cd_I w 1000 (B 16) i) → stk w' B st := by
  intro st
  induction st with
  | nil => intro _ _; trivial
  | cons p st ih =>
    obtain ⟨o, n⟩ := p
    intro h he
    obtain ⟨h1, h2, h3⟩ := h
    have e := he st.length (by simp)
    exact ⟨e.1.trans h1, e.2.trans h2, ih h3 fun i hi => he i (by simp only [List.length_cons]; omega)⟩
def msr (acc : List Nat) : List (Nat × Nat) → Nat
  | [] => (12 - acc.length) * 8
  | (_, n) :: st => msr acc st + (4 - n)
theorem msr_acc (acc : List Nat) (z : Nat) (hl : acc.length < 12) (st : List (Nat × Nat)) : msr (acc ++ [z]) st + 8 = msr acc st := by
  induction st with
  | nil => simp only [msr, List.length_append, List.length_cons, List.length_nil]; omega
  | cons p st ih =>
    obtain ⟨o, n⟩ := p
    simp only [msr]
    omega
/-- what is so within the gathering -/
def Gth (w : cd_Wd) (m : Nat) (B : Nat → Nat) (σ : cd_S) (g : Nat → Bool) (d : Nat) (acc : List Nat) (st : List (Nat × Nat)) : Prop := RepM w m B σ g ∧ WfA acc ∧ cd_I w 209 m 0 = nI acc.length ∧ (∀ i, i < acc.length → cd_I w 1000 (B 13) i = nI (acc.getD i 0)) ∧ (∀ y, y < 12 → (cd_I w 1000 (B 14) y < 0 ↔ y ∉ acc)) ∧ stk w B st ∧ st.length ≤ acc.length ∧ ∀ p ∈ st, p.1 < 12 ∧ sT σ d p.1 = true ∧ p.2 ≤ 3
theorem nB {w : cd_Wd} {m : Nat} {B : Nat → Nat} {σ : cd_S} {g : Nat → Bool} (h : RepM w m B σ g) {k k' : Nat} (h1 : 3 ≤ k ∧ k ≤ 16) (h2 : 3 ≤ k' ∧ k' ≤ 16) (hn : k ≠ k') : ¬ B k = B k' := fun e => hn (h.1.2.2 k k' h1.1 h1.2 h2.1 h2.2 e)
theorem w_ne {w : cd_Wd} {t a j : Nat} {v : Int32} {t' a' j' : Nat} (h : ¬ a' = a) : cd_I (cd_wI w t a j v) t' a' j' = cd_I w t' a' j' := by rw [I_wI, if_neg (fun z => h z.2.1)]
theorem w_nt {w : cd_Wd} {t a j : Nat} {v : Int32} {t' a' j' : Nat} (h : ¬ t' = t) : cd_I (cd_wI w t a j v) t' a' j' = cd_I w t' a' j' := by rw [I_wI, if_neg (fun z => h z.1)]
theorem w_nj {w : cd_Wd} {t a j : Nat} {v : Int32} {t' a' j' : Nat} (h : ¬ j' = j) : cd_I (cd_wI w t a j v) t' a' j' = cd_I w t' a' j' := by rw [I_wI, if_neg (fun z => h z.2.2)]
theorem w_eq {w : cd_Wd} {t a j : Nat} {v : Int32} : cd_I (cd_wI w t a j v) t a j = v := by rw [I_wI, if_pos ⟨rfl, rfl, rfl⟩]
/-- the next field -/
theorem Gth.next {w : cd_Wd} {m : Nat} {B : Nat → Nat} {σ : cd_S} {g : Nat → Bool} {d o n : Nat} {acc : List Nat} {st : List (Nat × Nat)} (h : Gth w m B σ g d acc ((o, n) :: st)) (hn : n < 3) : Gth (cd_wI w 1000 (B 16) st.length (nI (n + 1))) m B σ g d acc ((o, n + 1) :: st) := by
  obtain ⟨h1, h2, h3, h4, h5, ⟨h6, h7, h8⟩, h9, h10⟩ := h
  have n1 := nB h1 (k := 13) (k' := 16) (by omega) (by omega) (by omega)
  have n2 := nB h1 (k := 14) (k' := 16) (by omega) (by omega) (by omega)
  have n3 := nB h1 (k := 15) (k' := 16) (by omega) (by omega) (by omega)
  refine ⟨rm_kA h1 (k := 16) (by omega) (by omega), h2, ?_, fun i hi => ?_, fun y hy => ?_, ⟨?_, ?_, ?_⟩, h9, fun p hp => ?_⟩
  · rw [w_nt (by decide)]; exact h3
  · rw [w_ne n1]; exact h4 i hi
  · rw [w_ne n2]; exact h5 y hy
  · rw [w_ne n3]; exact h6
  · exact w_eq
  · exact stk_cg h8 fun i hi => ⟨w_ne n3, w_nj (by omega)⟩
  · rcases List.mem_cons.mp hp with rfl | hp
    · have := h10 (o, n) List.mem_cons_self
      exact ⟨this.1, this.2.1, by simp only; omega⟩
    · exact h10 p (List.mem_cons_of_mem _ hp)
/-- one more object -/
theorem Gth.push {w : cd_Wd} {m : Nat} {B : Nat → Nat} {σ : cd_S} {g : Nat → Bool} {d z : Nat} {acc : List Nat} {st : List (Nat × Nat)} (h : Gth w m B σ g d acc st) (hz : z < 12) (hza : z ∉ acc) (ht : sT σ d z = true) :
    Gth (cd_wI (cd_wI (cd_wI (cd_wI (cd_wI w 1000 (B 14) z (nI acc.length)) 1000 (B 13) acc.length (nI z)) 209 m 0 (nI (acc.length + 1))) 1000 (B 15) st.length (nI z)) 1000 (B 16) st.length 0) m B σ g d (acc ++ [z]) ((z, 0) :: st) := by
  obtain ⟨h1, h2, h3, h4, h5, h6, h9, h10⟩ := h
  have hl := h2.lt hz hza
  have a1 := nB h1 (k := 13) (k' := 14) (by omega) (by omega) (by omega)
  have a2 := nB h1 (k := 13) (k' := 15) (by omega) (by omega) (by omega)
  have a3 := nB h1 (k := 13) (k' := 16) (by omega) (by omega) (by omega)
  have a4 := nB h1 (k := 14) (k' := 15) (by omega) (by omega) (by omega)
  have a5 := nB h1 (k := 14) (k' := 16) (by omega) (by omega) (by omega)
  have a6 := nB h1 (k := 15) (k' := 16) (by omega) (by omega) (by omega)
  have b0 : ∀ k, 3 ≤ k → k ≤ 16 → ¬ B k = m := fun k x y e => mB_ne h1 x y e.symm
  refine ⟨?_, h2.add hz hza, ?_, fun i hi => ?_, fun y hy => ?_, ⟨?_, ?_, ?_⟩, ?_, fun p hp => ?_⟩
  · exact rm_kA (rm_kA (rm_km (rm_kA (rm_kA h1 (k := 14) (by omega) (by omega)) (k := 13) (by omega) (by omega)) (by decide) (by decide) (by decide) (by decide)) (k := 15) (by omega) (by omega)) (k := 16) (by omega) (by omega)
  · rw [w_nt (by decide), w_nt (by decide), w_eq]
    simp
  · rw [w_ne a3, w_ne a2, w_ne (b0 13 (by omega) (by omega))]
    simp only [List.length_append, List.length_cons, List.length_nil] at hi
    by_cases e : i = acc.length
    · subst e
      rw [w_eq]
      simp
    · rw [w_nj e, w_ne a1, List.getD_eq_getElem?_getD, List.getElem?_append_left (by omega), ← List.getD_eq_getElem?_getD]
      exact h4 i (by omega)
  · rw [w_ne a5, w_ne a4, w_ne (b0 14 (by omega) (by omega)), w_ne (Ne.symm a1)]
    by_cases e : y = z
    · subst e
      rw [w_eq]
      exact ⟨fun q => absurd q (nI_pos (by omega)), fun q => absurd (by simp) q⟩
    · rw [w_nj e, h5 y hy]
      simp [e]
  · rw [w_ne a6]; exact w_eq
  · rw [w_eq]; exact nI_0.symm
  · refine stk_cg h6 fun i hi => ⟨?_, ?_⟩
    · rw [w_ne a6, w_nj (by omega), w_ne (b0 15 (by omega) (by omega)), w_ne (Ne.symm a2), w_ne (Ne.symm a4)]
    · rw [w_nj (by omega), w_ne (Ne.symm a6), w_ne (b0 16 (by omega) (by omega)), w_ne (Ne.symm a3), w_ne (Ne.symm a5)]
  · simp only [List.length_append, List.length_cons, List.length_nil]; omega
  · rcases List.mem_cons.mp hp with rfl | hp
    · exact ⟨hz, ht, by simp⟩
    · exact h10 p hp
theorem Gth.pop {w : cd_Wd} {m : Nat} {B : Nat → Nat} {σ : cd_S} {g : Nat → Bool} {d o n : Nat} {acc : List Nat} {st : List (Nat × Nat)} (h : Gth w m B σ g d acc ((o, n) :: st)) : Gth w m B σ g d acc st := by
  obtain ⟨h1, h2, h3, h4, h5, ⟨h6, h7, h8⟩, h9, h10⟩ := h
  exact ⟨h1, h2, h3, h4, h5, h8, by simp only [List.length_cons] at h9; omega, fun p hp => h10 p (List.mem_cons_of_mem _ hp)⟩

theorem Gth.start {w : cd_Wd} {m : Nat} {B : Nat → Nat} {σ : cd_S} {g : Nat → Bool} {d o : Nat} (h1 : RepM w m B σ g) (hc : ∀ y, y < 12 → cd_I w 1000 (B 14) y = -1) (ho : o < 12) (ht : sT σ d o = true) :
    Gth (cd_wI (cd_wI (cd_wI (cd_wI (cd_wI w 209 m 0 1) 1000 (B 13) 0 (nI o)) 1000 (B 14) o 0) 1000 (B 15) 0 (nI o)) 1000 (B 16) 0 0) m B σ g d [o] [(o, 0)] := by
  have a1 := nB h1 (k := 13) (k' := 14) (by omega) (by omega) (by omega)
  have a2 := nB h1 (k := 13) (k' := 15) (by omega) (by omega) (by omega)
  have a3 := nB h1 (k := 13) (k' := 16) (by omega) (by omega) (by omega)
  have a4 := nB h1 (k := 14) (k' := 15) (by omega) (by omega) (by omega)
  have a5 := nB h1 (k := 14) (k' := 16) (by omega) (by omega) (by omega)
  have a6 := nB h1 (k := 15) (k' := 16) (by omega) (by omega) (by omega)
  have b0 : ∀ k, 3 ≤ k → k ≤ 16 → ¬ B k = m := fun k x y e => mB_ne h1 x y e.symm
  have hw : WfA ([] : List Nat) := ⟨List.nodup_nil, fun y hy => by cases hy⟩
  refine ⟨?_, hw.add ho (fun z => by cases z), ?_, fun i hi => ?_, fun y hy => ?_, ⟨?_, ?_, trivial⟩, by simp, fun p hp => ?_⟩
  · exact rm_kA (rm_kA (rm_kA (rm_kA (rm_km h1 (by decide) (by decide) (by decide) (by decide)) (k := 13) (by omega) (by omega)) (k := 14) (by omega) (by omega)) (k := 15) (by omega) (by omega)) (k := 16) (by omega) (by omega)
  · rw [w_nt (by decide), w_nt (by decide), w_nt (by decide), w_nt (by decide), w_eq]; rfl
  · simp only [List.length_cons, List.length_nil] at hi
    obtain rfl : i = 0 := by omega
    rw [w_ne a3, w_ne a2, w_ne a1, w_eq]; rfl
  · rw [w_ne a5, w_ne a4]
    by_cases e : y = o
    · subst e
      rw [w_eq]
      exact ⟨fun q => absurd q (by decide), fun q => absurd (by simp) q⟩
    · rw [w_nj e, w_ne (Ne.symm a1), w_ne (b0 14 (by omega) (by omega)), hc y hy]
      exact ⟨fun _ => by simp [e], fun _ => by decide⟩
  · rw [w_ne a6]; exact w_eq
  · rw [show ([] : List (Nat × Nat)).length = 0 from rfl, w_eq]; exact nI_0.symm
  · simp only [List.mem_singleton] at hp
    subst hp
    exact ⟨ho, ht, by simp⟩
theorem icm (j : Nat) : nI (j + 1) + Int32.ofInt (-1) = nI j := by
  rw [show Int32.ofInt (-1) = -1 from by decide, ← Int32.sub_eq_add_neg]
  exact nI_pred j
theorem kid_no {σ : cd_S} {d o n : Nat} {acc : List Nat} (h : (sF σ d o n).2.1 = none) : kid σ d acc o n = acc := by
  refine come_no fun z => ?_
  have e : hasO σ d (lkI σ d o n) = false := by rw [lkI, h]; exact hasO_neg (Or.inl (by decide))
  rw [e] at z
  cases z.1
theorem kid_in {σ : cd_S} {d o n z : Nat} {acc : List Nat} (h : (sF σ d o n).2.1 = some z) (hz : z < 12) (hi : z ∈ acc) : kid σ d acc o n = acc := by
  refine come_no fun q => ?_
  have e : lkI σ d o n = nI z := by rw [lkI, h]; rfl
  rw [e, nI_clamp (by omega)] at q
  exact q.2 hi
