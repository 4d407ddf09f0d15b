/-! ===== the objects that hang on one ===== -/
theorem nd_len : ∀ (n : Nat) (l : List Nat), l.Nodup → (∀ y ∈ l, y < n) → l.length ≤ n := by
  intro n
  induction n with
  | zero =>
    intro l _ h
    cases l with
    | nil => exact Nat.le_refl _
    | cons y t => exact absurd (h y List.mem_cons_self) (Nat.not_lt_zero y)
  | succ n ih =>
    intro l hn h
    by_cases e : n ∈ l
    · have h1 := List.length_erase_of_mem e
      have h2 := ih (l.erase n) (hn.erase n) fun y hy => by
        obtain ⟨h3, h4⟩ := (List.Nodup.mem_erase_iff hn).mp hy
        have := h y h4
        omega
      have h3 : 0 < l.length := List.length_pos_of_mem e
      omega
    · have h2 := ih l hn fun y hy => by
        have := h y hy
        have : y ≠ n := fun z => e (z ▸ hy)
        omega
      omega
def WfA (acc : List Nat) : Prop := acc.Nodup ∧ ∀ y ∈ acc, y < 12
theorem WfA.lt {acc : List Nat} (h : WfA acc) {o : Nat} (ho : o < 12) (hn : o ∉ acc) : acc.length < 12 := by
  have := nd_len 12 (o :: acc) (List.nodup_cons.mpr ⟨hn, h.1⟩) (fun y hy => by
    rcases List.mem_cons.mp hy with rfl | hy
    · exact ho
    · exact h.2 y hy)
  simp only [List.length_cons] at this
  omega
theorem WfA.add {acc : List Nat} (h : WfA acc) {o : Nat} (ho : o < 12) (hn : o ∉ acc) : WfA (acc ++ [o]) := by
  refine ⟨List.nodup_append.mpr ⟨h.1, by simp, ?_⟩, fun y hy => ?_⟩
  · intro a ha b hb
    simp only [List.mem_singleton] at hb
    subst hb
    exact fun e => hn (e ▸ ha)
  · rcases List.mem_append.mp hy with hy | hy
    · exact h.2 y hy
    · simp only [List.mem_singleton] at hy
      omega
/-- the link's number -/
def lkI (σ : cd_S) (d o f : Nat) : Int32 := cd_l (sF σ d o f).2.1
def come (σ : cd_S) (d : Nat) : Nat → Int32 → List Nat → List Nat
  | 0, _, acc => acc
  | n + 1, o, acc => if hasO σ d o = true ∧ o.toNatClampNeg ∉ acc then itr (fun a f => come σ d n (lkI σ d o.toNatClampNeg f) a) (acc ++ [o.toNatClampNeg]) 3 else acc
theorem come_no {σ : cd_S} {d n : Nat} {o : Int32} {acc : List Nat} (h : ¬ (hasO σ d o = true ∧ o.toNatClampNeg ∉ acc)) : come σ d n o acc = acc := by
  cases n with
  | zero => rfl
  | succ n => rw [come, if_neg h]
theorem come_ok {σ : cd_S} {d : Nat} : ∀ (n : Nat) (o : Int32) (acc : List Nat), WfA acc → WfA (come σ d n o acc) ∧ (∃ t, come σ d n o acc = acc ++ t) ∧ ∀ y ∈ come σ d n o acc, y ∈ acc ∨ sT σ d y = true := by
  intro n
  induction n with
  | zero => intro o acc h; exact ⟨h, ⟨[], by simp [come]⟩, fun y hy => Or.inl hy⟩
  | succ n ih =>
    intro o acc h
    by_cases hc : hasO σ d o = true ∧ o.toNatClampNeg ∉ acc
    · obtain ⟨j, hj, rfl, ht⟩ := hasO_of hc.1
      have hcl : (nI j).toNatClampNeg = j := nI_clamp (by omega)
      rw [come, if_pos hc, hcl]
      rw [hcl] at hc
      have := itr_inv (s := fun a f => come σ d n (lkI σ d j f) a) (a := acc ++ [j]) (fun a => WfA a ∧ (∃ t, a = acc ++ t) ∧ ∀ y ∈ a, y ∈ acc ∨ sT σ d y = true) ⟨h.add hj hc.2, ⟨[j], rfl⟩, fun y hy => by
        rcases List.mem_append.mp hy with hy | hy
        · exact Or.inl hy
        · simp only [List.mem_singleton] at hy
          subst hy
          exact Or.inr ht⟩ (fun a f ⟨a1, ⟨t, a2⟩, a3⟩ => by
        obtain ⟨b1, ⟨t', b2⟩, b3⟩ := ih (lkI σ d j f) a a1
        refine ⟨b1, ⟨t ++ t', ?_⟩, fun y hy => ?_⟩
        · rw [b2, ← List.append_assoc, ← a2]
        · rcases b3 y hy with hy | hy
          · exact a3 y hy
          · exact Or.inr hy) 3
      exact this
    · rw [come_no hc]
      exact ⟨h, ⟨[], by simp⟩, fun y hy => Or.inl hy⟩
theorem come_sub {σ : cd_S} {d n : Nat} {o : Int32} {acc : List Nat} (h : WfA acc) {y : Nat} (hy : y ∈ acc) : y ∈ come σ d n o acc := by
  obtain ⟨-, ⟨t, e⟩, -⟩ := come_ok (σ := σ) (d := d) n o acc h
  rw [e]
  exact List.mem_append_left _ hy
/-- all that an object links to is there too -/
def clo (σ : cd_S) (d y : Nat) (a : List Nat) : Prop := ∀ f, f < 3 → ∀ t, (sF σ d y f).2.1 = some t → t < 12 → sT σ d t = true → t ∈ a
theorem come_cl {σ : cd_S} {d : Nat} : ∀ (n : Nat) (o : Int32) (acc : List Nat), WfA acc → 12 ≤ n + acc.length → (hasO σ d o = true → o.toNatClampNeg ∈ come σ d n o acc) ∧ ∀ y ∈ come σ d n o acc, y ∉ acc → clo σ d y (come σ d n o acc) := by
  intro n
  induction n with
  | zero =>
    intro o acc h hl
    refine ⟨fun ho => ?_, fun y hy hn => absurd hy hn⟩
    obtain ⟨j, hj, rfl, -⟩ := hasO_of ho
    rw [nI_clamp (by omega), come]
    exact Decidable.byContradiction fun hn => by have := h.lt hj hn; omega
  | succ n ih =>
    intro o acc h hl
    by_cases hc : hasO σ d o = true ∧ o.toNatClampNeg ∉ acc
    · obtain ⟨j, hj, rfl, ht⟩ := hasO_of hc.1
      have hcl : (nI j).toNatClampNeg = j := nI_clamp (by omega)
      rw [come, if_pos hc, hcl]
      rw [hcl] at hc
      have hw1 := h.add hj hc.2
      have inv := itr_invL (s := fun a f => come σ d n (lkI σ d j f) a) (a := acc ++ [j]) 3 (fun k a => WfA a ∧ (∃ t, a = (acc ++ [j]) ++ t) ∧ (∀ f, f < k → ∀ t, (sF σ d j f).2.1 = some t → t < 12 → sT σ d t = true → t ∈ a) ∧ ∀ y ∈ a, y ∉ acc ++ [j] → clo σ d y a)
        ⟨hw1, ⟨[], by simp⟩, fun f hf => absurd hf (Nat.not_lt_zero f), fun y hy hn => absurd hy hn⟩
        (fun a f hf ⟨a1, ⟨t, a2⟩, a3, a4⟩ => by
          have hla : 12 ≤ n + a.length := by rw [a2]; simp only [List.length_append, List.length_cons, List.length_nil]; omega
          obtain ⟨b1, ⟨t', b2⟩, -⟩ := come_ok (σ := σ) (d := d) n (lkI σ d j f) a a1
          obtain ⟨c1, c2⟩ := ih (lkI σ d j f) a a1 hla
          have sub : ∀ y, y ∈ a → y ∈ come σ d n (lkI σ d j f) a := fun y hy => come_sub a1 hy
          refine ⟨b1, ⟨t ++ t', by rw [b2, ← List.append_assoc, ← a2]⟩, fun g hg t ht h12 hT => ?_, fun y hy hn => ?_⟩
          · by_cases e : g = f
            · subst e
              have e1 : lkI σ d j g = nI t := by rw [lkI, ht]; rfl
              have := c1 (by rw [e1, hasO_nI h12]; exact hT)
              rw [e1, nI_clamp (by omega)] at this
              rw [e1]
              exact this
            · exact sub _ (a3 g (by omega) t ht h12 hT)
          · by_cases hya : y ∈ a
            · exact fun g hg t ht h12 hT => sub _ (a4 y hya hn g hg t ht h12 hT)
            · exact c2 y hy hya) 3 (Nat.le_refl _)
      obtain ⟨-, ⟨t, e1⟩, e2, e3⟩ := inv
      have hjin : j ∈ itr (fun a f => come σ d n (lkI σ d j f) a) (acc ++ [j]) 3 := by rw [e1]; simp
      refine ⟨fun _ => hjin, fun y hy hn => ?_⟩
      by_cases e : y = j
      · subst e
        exact fun f hf t ht h12 hT => e2 f hf t ht h12 hT
      · exact e3 y hy (by simp [hn, e])
    · rw [come_no hc]
      refine ⟨fun ho => Decidable.byContradiction fun hn => hc ⟨ho, hn⟩, fun y hy hn => absurd hy hn⟩
/-- the numbers of the copies, and the state with them -/
def mk1 (h : Nat) (L : List Nat) (p : cd_S × (Nat → Nat)) (i : Nat) : cd_S × (Nat → Nat) := (newO p.1 h (fo p.1 h), fun y => if y = L.getD i 0 then fo p.1 h else p.2 y)
def mkA (σ : cd_S) (h : Nat) (L : List Nat) (n : Nat) : cd_S × (Nat → Nat) := itr (mk1 h L) (σ, fun _ => 0) n
/-- a field of the copy -/
def cpF (cn : Nat → Nat) (t : Int32 × Option Nat × Option Nat) : Int32 × Option Nat × Option Nat := match t with
  | (_, some z, _) => (0, some (cn z), none)
  | (_, none, some c) => (0, none, some c)
  | (v, none, none) => (v, none, none)
def cp1 (d h : Nat) (cn : Nat → Nat) (s c : Nat) (τ : cd_S) (f : Nat) : cd_S := setF τ h c f (cpF cn (sF τ d s f))
def cpO (d h : Nat) (L : List Nat) (cn : Nat → Nat) (τ : cd_S) (i : Nat) : cd_S := itr (cp1 d h cn (L.getD i 0) (cn (L.getD i 0))) τ 3
def cpA (d h : Nat) (L : List Nat) (cn : Nat → Nat) (σ : cd_S) (n : Nat) : cd_S := itr (cpO d h L cn) σ n
def psS (σ : cd_S) (j c : Nat) (f : Nat) (o : Nat) (L : List Nat) : cd_S := spend (setF (cpA j (kH σ c) L (mkA σ (kH σ c) L L.length).2 (mkA σ (kH σ c) L L.length).1 L.length) (kH σ c) (kT σ c) f (0, some ((mkA σ (kH σ c) L L.length).2 o), none)) c
def sp_pass (σ : cd_S) (d s f o : Int32) : cd_R := rU σ d s 4 fun j c => if isFi f = true then (if hasO σ j o = true then (if 12 < cnt (sT σ (kH σ c)) 12 + (come σ j 12 o []).length then (6, 0, σ) else (0, nI (come σ j 12 o []).length, psS σ j c f.toNatClampNeg o.toNatClampNeg (come σ j 12 o []))) else (3, 0, σ)) else (5, 0, σ)
/-! what the copying keeps -/
theorem newO_T (σ : cd_S) (h o d' o' : Nat) : sT (newO σ h o) d' o' = if d' = h ∧ o' = o then true else sT σ d' o' := rfl
theorem newO_F (σ : cd_S) (h o d' o' f' : Nat) (hne : ¬ (d' = h ∧ o' = o)) : sF (newO σ h o) d' o' f' = sF σ d' o' f' := by
  refine itr_inv (s := fun τ f => setF τ h o f zF) (a := setT σ h o true) (fun τ => sF τ d' o' f' = sF σ d' o' f') rfl (fun τ j hτ => ?_) 3
  rw [sF_setF, if_neg (fun z => hne ⟨z.1, z.2.1⟩)]
  exact hτ
theorem cnt_up {p q : Nat → Bool} {n o : Nat} (ho : o < n) (hp : p o = false) (hq : ∀ i, q i = if i = o then true else p i) : cnt q n = cnt p n + 1 := by
  induction n with
  | zero => omega
  | succ n ih =>
    rw [cnt, cnt]
    by_cases e : o = n
    · subst e
      have h1 : cnt q o = cnt p o := cnt_cg fun j hj => by rw [hq, if_neg (by omega)]
      rw [h1, hq, if_pos rfl, hp]
      rfl
    · rw [ih (by omega), hq n, if_neg (Ne.symm e)]
      omega
theorem newO_cnt {σ : cd_S} {h : Nat} (hc : cnt (sT σ h) 12 < 12) : cnt (sT (newO σ h (fo σ h)) h) 12 = cnt (sT σ h) 12 + 1 := by
  obtain ⟨h1, h2, -⟩ := ffr_sp hc
  refine cnt_up (o := fo σ h) h1 h2 fun i => ?_
  rw [newO_T]
  by_cases e : i = fo σ h
  · rw [if_pos ⟨rfl, e⟩, if_pos e]
  · rw [if_neg (fun z => e z.2), if_neg e]
/-- after n copies are numbered -/
theorem mkA_ok {σ : cd_S} {h : Nat} {L : List Nat} (hL : L.Nodup) (hc : cnt (sT σ h) 12 + L.length ≤ 12) : ∀ n, n ≤ L.length → sDC σ (mkA σ h L n).1 ∧ cnt (sT (mkA σ h L n).1 h) 12 = cnt (sT σ h) 12 + n ∧ (∀ d o, sT σ d o = true → sT (mkA σ h L n).1 d o = true ∧ ∀ f, sF (mkA σ h L n).1 d o f = sF σ d o f) ∧ (∀ d, d ≠ h → ∀ o, sT (mkA σ h L n).1 d o = sT σ d o) ∧
    (∀ k, k < n → (mkA σ h L n).2 (L.getD k 0) < 12 ∧ sT σ h ((mkA σ h L n).2 (L.getD k 0)) = false ∧ sT (mkA σ h L n).1 h ((mkA σ h L n).2 (L.getD k 0)) = true) := by
  intro n
  induction n with
  | zero => intro _; exact ⟨⟨rfl, rfl⟩, rfl, fun d o ht => ⟨ht, fun f => rfl⟩, fun d _ o => rfl, fun k hk => absurd hk (Nat.not_lt_zero k)⟩
  | succ n ih =>
    intro hn
    obtain ⟨a1, a2, a3, a4, a5⟩ := ih (by omega)
    have hlt : cnt (sT (mkA σ h L n).1 h) 12 < 12 := by omega
    obtain ⟨g1, g2, g3⟩ := ffr_sp hlt
    have e0 : mkA σ h L (n + 1) = mk1 h L (mkA σ h L n) n := rfl
    rw [e0]
    have hfree : sT σ h (fo (mkA σ h L n).1 h) = false := by
      cases hz : sT σ h (fo (mkA σ h L n).1 h) with
      | false => rfl
      | true => have := (a3 h _ hz).1; rw [show sT (mkA σ h L n).1 h (fo (mkA σ h L n).1 h) = false from g2] at this; cases this
    refine ⟨a1.tr (newO_DC _ _ _), by rw [mk1, newO_cnt hlt, a2]; omega, fun d o ht => ?_, fun d hd o => ?_, fun k hk => ?_⟩
    · obtain ⟨b1, b2⟩ := a3 d o ht
      have hne : ¬ (d = h ∧ o = fo (mkA σ h L n).1 h) := fun z => by
        obtain ⟨rfl, rfl⟩ := z
        rw [hfree] at ht; cases ht
      exact ⟨by rw [mk1, newO_T, if_neg hne]; exact b1, fun f => by rw [mk1, newO_F _ _ _ _ _ _ hne]; exact b2 f⟩
    · rw [mk1, newO_T, if_neg (fun z => hd z.1)]; exact a4 d hd o
    · by_cases e : k = n
      · subst e
        simp only [mk1, if_true]
        exact ⟨g1, hfree, by rw [newO_T, if_pos ⟨rfl, rfl⟩]⟩
      · have hne : ¬ L.getD k 0 = L.getD n 0 := fun z => by
          rw [List.getD_eq_getElem?_getD, List.getD_eq_getElem?_getD, List.getElem?_eq_getElem (by omega : k < L.length), List.getElem?_eq_getElem (by omega : n < L.length)] at z
          simp only [Option.getD_some] at z
          exact e ((List.getElem_inj hL).mp z)
        obtain ⟨b1, b2, b3⟩ := a5 k (by omega)
        simp only [mk1, if_neg hne]
        refine ⟨b1, b2, ?_⟩
        rw [newO_T]
        split
        · rfl
        · exact b3
