/-! ===== LOOPS ===== -/
theorem ic1 (j : Nat) : nI j + Int32.ofInt 1 = nI (j + 1) := (nI_succ j).symm
theorem lp {P : Nat → cd_Wd → Prop} {g : Nat → cd_Wd → Prop} (N : Nat) (he : ∀ w, P N w → g N w) (hs : ∀ j w, j < N → P j w → (∀ w', P (j + 1) w' → g (j + 1) w') → g j w) : ∀ j w, j ≤ N → P j w → g j w := by
  have h : ∀ r j w, j + r = N → P j w → g j w := by
    intro r
    induction r with
    | zero => intro j w e hp; obtain rfl : j = N := by omega
              exact he w hp
    | succ r ih => intro j w e hp; exact hs j w (by omega) hp fun w' hp' => ih (j + 1) w' (by omega) hp'
  exact fun j w hj hp => h (N - j) j w (by omega) hp
section RowsFg
variable {G : cd_Gl} {l : Launch} {C : cd_Cx} {Q : State → Prop} {k n : Nat} {w : cd_Wd} {pc : Nat} {lv : List (Option Value)} {rest : List Value}
/-- a local that is read no more is forgotten -/
theorem g_fg (i : Nat) (h : cd_Go G l C Q k n w pc (lv.set i none) rest) : cd_Go G l C Q k n w pc lv rest := by
  intro H locs ls a1 b1 c1
  refine h H locs ls a1 b1 ⟨by rw [List.length_set]; exact c1.1, c1.2.1, fun j v hj => ?_⟩
  by_cases e : j = i
  · subst e
    have hl : j < (lv.set j none).length := (List.getElem?_eq_some_iff.mp hj).1
    rw [List.length_set] at hl
    rw [List.getElem?_set_self hl] at hj
    cases hj
  · rw [List.getElem?_set_ne (Ne.symm e)] at hj
    exact c1.2.2 j v hj
end RowsFg
/-- a step done n times -/
def itr {α : Type} (s : α → Nat → α) (a : α) : Nat → α
  | 0 => a
  | j + 1 => s (itr s a j) j
theorem itr_s {α : Type} (s : α → Nat → α) (a : α) (j : Nat) : itr s a (j + 1) = s (itr s a j) j := rfl
theorem itr_inv {α : Type} {s : α → Nat → α} {a : α} (I : α → Prop) (h0 : I a) (hs : ∀ b j, I b → I (s b j)) : ∀ n, I (itr s a n) := by
  intro n
  induction n with
  | zero => exact h0
  | succ n ih => exact hs _ _ ih
theorem itr_invL {α : Type} {s : α → Nat → α} {a : α} (N : Nat) (I : Nat → α → Prop) (h0 : I 0 a) (hs : ∀ b j, j < N → I j b → I (j + 1) (s b j)) : ∀ n, n ≤ N → I n (itr s a n) := by
  intro n
  induction n with
  | zero => intro _; exact h0
  | succ n ih => intro h; exact hs _ _ (by omega) (ih (by omega))
/-- how many below n -/
def cnt (p : Nat → Bool) : Nat → Nat
  | 0 => 0
  | j + 1 => cnt p j + (if p j then 1 else 0)
theorem cnt_t {p : Nat → Bool} {j : Nat} (h : p j = true) : cnt p (j + 1) = cnt p j + 1 := by rw [cnt, if_pos h]
theorem cnt_f {p : Nat → Bool} {j : Nat} (h : p j = false) : cnt p (j + 1) = cnt p j := by rw [cnt, if_neg (by rw [h]; decide)]; rfl
theorem cnt_le (p : Nat → Bool) (n : Nat) : cnt p n ≤ n := by
  induction n with
  | zero => exact Nat.le_refl _
  | succ n ih => rw [cnt]; split <;> omega
theorem cnt_cg {p q : Nat → Bool} {n : Nat} (h : ∀ j, j < n → p j = q j) : cnt p n = cnt q n := by
  induction n with
  | zero => rfl
  | succ n ih => rw [cnt, cnt, ih fun j hj => h j (by omega), h n (by omega)]
theorem cnt_full {p : Nat → Bool} {n : Nat} : cnt p n = n ↔ ∀ j, j < n → p j = true := by
  induction n with
  | zero => exact ⟨fun _ j h => by omega, fun _ => rfl⟩
  | succ n ih =>
    have hle := cnt_le p n
    rw [cnt]
    constructor
    · intro h
      split at h
      · next hp =>
        have h1 := ih.mp (by omega)
        intro j hj
        by_cases e : j = n
        · subst e; exact hp
        · exact h1 j (by omega)
      · omega
    · intro h
      rw [if_pos (h n (by omega)), ih.mpr fun j hj => h j (by omega)]
/-! ===== what the class's own small methods make of the state ===== -/
def zF : Int32 × Option Nat × Option Nat := (0, none, none)
/-- an object begins -/
def newO (σ : cd_S) (d o : Nat) : cd_S := itr (fun τ f => setF τ d o f zF) (setT σ d o true) 3
/-- the links of one object to t go -/
def ulF (d t o : Nat) (p : cd_S × Nat) (f : Nat) : cd_S × Nat := if (sF p.1 d o f).2.1 = some t then (setF p.1 d o f zF, p.2 + 1) else p
def ulO (d t : Nat) (p : cd_S × Nat) (o : Nat) : cd_S × Nat := if sT p.1 d o = true then itr (ulF d t o) p 3 else p
def remO (σ : cd_S) (d t : Nat) : cd_S × Nat := itr (ulO d t) (setT σ d t false, 0) 12
/-- a domain ends -/
def finD (σ : cd_S) (d : Nat) : cd_S := itr (fun τ i => setS τ d i none) (itr (fun τ o => setT τ d o false) (setE σ d true) 12) 8
/-- death spreads -/
def sp1 (p : cd_S × Nat) (c : Nat) : cd_S × Nat := if kX p.1 c = false ∧ die p.1 c = true then (setX p.1 c true, p.2 + 1) else p
def sprd (σ : cd_S) : cd_S × Nat := itr sp1 (σ, 0) (sC σ)
/-- counts that stay -/
def sDC (σ τ : cd_S) : Prop := sD τ = sD σ ∧ sC τ = sC σ
theorem va_cg {σ τ : cd_S} (h : sDC σ τ) {k d o f : Nat} : cd_va τ k d o f ↔ cd_va σ k d o f := by
  simp only [cd_va, h.1, h.2]
theorem ow_cg {x : Nat} {A : cd_A} {σ τ : cd_S} (h : sDC σ τ) (a : Nat) : cd_ow x A τ a ↔ cd_ow x A σ a := by
  simp only [cd_ow, va_cg h]
theorem fr_cg {x : Nat} {A : cd_A} {σ τ : cd_S} (h : sDC σ τ) {w w' : cd_Wd} (hF : cd_Fr w w' (cd_ow x A τ)) : cd_Fr w w' (cd_ow x A σ) := hF.up fun b _ hb => (ow_cg h b).mp hb
theorem ulO_DC (d t : Nat) (p : cd_S × Nat) (o : Nat) : sDC p.1 (ulO d t p o).1 := by
  unfold ulO
  split
  · refine itr_inv (fun q : cd_S × Nat => sDC p.1 q.1) ⟨rfl, rfl⟩ (fun b j h => ?_) 3
    unfold ulF
    split
    · exact h
    · exact h
  · exact ⟨rfl, rfl⟩
theorem remO_DC (σ : cd_S) (d t n : Nat) : sDC σ (itr (ulO d t) (setT σ d t false, 0) n).1 := by
  refine itr_inv (fun q : cd_S × Nat => sDC σ q.1) ⟨rfl, rfl⟩ (fun b j h => ?_) n
  obtain ⟨h1, h2⟩ := ulO_DC d t b j
  exact ⟨h1.trans h.1, h2.trans h.2⟩
theorem sp1_DC (p : cd_S × Nat) (c : Nat) : sDC p.1 (sp1 p c).1 := by
  unfold sp1
  split
  · exact ⟨rfl, rfl⟩
  · exact ⟨rfl, rfl⟩
theorem sprd_DC (σ : cd_S) (n : Nat) : sDC σ (itr sp1 (σ, 0) n).1 := by
  refine itr_inv (fun q : cd_S × Nat => sDC σ q.1) ⟨rfl, rfl⟩ (fun b j h => ?_) n
  obtain ⟨h1, h2⟩ := sp1_DC b j
  exact ⟨h1.trans h.1, h2.trans h.2⟩
