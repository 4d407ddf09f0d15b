/-! ===== THE STATE OF THE CLASS: numbers, and where they lie =====
sD domains made, sC capabilities made, sE ended, sT there, sN sL sK a field's int, link, capability, sS a slot, kH kT kP kR kU kV kX a capability's home, target, parent, rights, uses, revoked, dead -/
abbrev cd_S : Type := Nat × Nat × (Nat → Bool) × (Nat → Nat → Bool) × (Nat → Nat → Nat → Int32 × Option Nat × Option Nat) × (Nat → Nat → Option Nat) × (Nat → Nat × Nat × Option Nat × Int32 × Int32 × Bool × Bool)
def sD (σ : cd_S) : Nat := σ.1
def sC (σ : cd_S) : Nat := σ.2.1
def sE (σ : cd_S) (d : Nat) : Bool := σ.2.2.1 d
def sT (σ : cd_S) (d o : Nat) : Bool := σ.2.2.2.1 d o
def sF (σ : cd_S) (d o f : Nat) : Int32 × Option Nat × Option Nat := σ.2.2.2.2.1 d o f
def sS (σ : cd_S) (d i : Nat) : Option Nat := σ.2.2.2.2.2.1 d i
def sK (σ : cd_S) (c : Nat) : Nat × Nat × Option Nat × Int32 × Int32 × Bool × Bool := σ.2.2.2.2.2.2 c
def kH (σ : cd_S) (c : Nat) : Nat := (sK σ c).1
def kT (σ : cd_S) (c : Nat) : Nat := (sK σ c).2.1
def kP (σ : cd_S) (c : Nat) : Option Nat := (sK σ c).2.2.1
def kR (σ : cd_S) (c : Nat) : Int32 := (sK σ c).2.2.2.1
def kU (σ : cd_S) (c : Nat) : Int32 := (sK σ c).2.2.2.2.1
def kV (σ : cd_S) (c : Nat) : Bool := (sK σ c).2.2.2.2.2.1
def kX (σ : cd_S) (c : Nat) : Bool := (sK σ c).2.2.2.2.2.2
def cd_b (b : Bool) : Int32 := if b then 1 else 0
def cd_l (o : Option Nat) : Int32 := match o with
  | none => -1
  | some t => nI t
/-- the addresses: A 0 the domains' array, A 1 d a domain, A 2 d its objects' array, A 3 d its slots' array, A 4 d o an object, A 5 d o its fields' array, A 6 d o f a field, A 7 the capabilities' array, A 8 c a capability, A 9 the reach, A 10, A 11, A 12 its arrays copyNumber, order, seen -/
abbrev cd_A : Type := Nat → Nat → Nat → Nat → Nat
def cd_va (σ : cd_S) (k d o f : Nat) : Prop := match k with
  | 0 => d = 0 ∧ o = 0 ∧ f = 0
  | 1 => d < sD σ ∧ o = 0 ∧ f = 0
  | 2 => d < sD σ ∧ o = 0 ∧ f = 0
  | 3 => d < sD σ ∧ o = 0 ∧ f = 0
  | 4 => d < sD σ ∧ o < 12 ∧ f = 0
  | 5 => d < sD σ ∧ o < 12 ∧ f = 0
  | 6 => d < sD σ ∧ o < 12 ∧ f < 3
  | 7 => d = 0 ∧ o = 0 ∧ f = 0
  | 8 => d < sC σ ∧ o = 0 ∧ f = 0
  | 9 => d = 0 ∧ o = 0 ∧ f = 0
  | 10 => d = 0 ∧ o = 0 ∧ f = 0
  | 11 => d = 0 ∧ o = 0 ∧ f = 0
  | 12 => d = 0 ∧ o = 0 ∧ f = 0
  | _ => False
def rp_x (w : cd_Wd) (x : Nat) (A : cd_A) (σ : cd_S) : Prop := cd_kd w x = 2 ∧ cd_O w 0 x 0 = some (A 0 0 0 0) ∧ cd_kd w (A 0 0 0 0) = 7 ∧ cd_ln w (A 0 0 0 0) = 6 ∧ cd_O w 2 x 0 = some (A 7 0 0 0) ∧ cd_kd w (A 7 0 0 0) = 13 ∧ cd_ln w (A 7 0 0 0) = 40 ∧
  cd_O w 4 x 0 = some (A 9 0 0 0) ∧ cd_kd w (A 9 0 0 0) = 12 ∧ cd_O w 161 (A 9 0 0 0) 0 = some (A 10 0 0 0) ∧ cd_kd w (A 10 0 0 0) = 1 ∧ cd_ln w (A 10 0 0 0) = 12 ∧ cd_O w 162 (A 9 0 0 0) 0 = some (A 11 0 0 0) ∧ cd_kd w (A 11 0 0 0) = 1 ∧ cd_ln w (A 11 0 0 0) = 12 ∧
  cd_O w 163 (A 9 0 0 0) 0 = some (A 12 0 0 0) ∧ cd_kd w (A 12 0 0 0) = 3 ∧ cd_ln w (A 12 0 0 0) = 12 ∧ cd_I w 1 x 0 = nI (sD σ) ∧ sD σ ≤ 6 ∧ cd_I w 3 x 0 = nI (sC σ) ∧ sC σ ≤ 40
def rp_d (w : cd_Wd) (A : cd_A) (σ : cd_S) : Prop := ∀ d, d < sD σ → cd_O w 1003 (A 0 0 0 0) d = some (A 1 d 0 0) ∧ cd_kd w (A 1 d 0 0) = 4 ∧ cd_O w 33 (A 1 d 0 0) 0 = some (A 2 d 0 0) ∧ cd_kd w (A 2 d 0 0) = 9 ∧ cd_ln w (A 2 d 0 0) = 12 ∧ cd_O w 34 (A 1 d 0 0) 0 = some (A 3 d 0 0) ∧ cd_kd w (A 3 d 0 0) = 13 ∧ cd_ln w (A 3 d 0 0) = 8 ∧ cd_I w 32 (A 1 d 0 0) 0 = cd_b (sE σ d)
def rp_o (w : cd_Wd) (A : cd_A) (σ : cd_S) : Prop := ∀ d o, d < sD σ → o < 12 → cd_O w 1004 (A 2 d 0 0) o = some (A 4 d o 0) ∧ cd_kd w (A 4 d o 0) = 6 ∧ cd_I w 64 (A 4 d o 0) 0 = cd_b (sT σ d o) ∧ cd_O w 65 (A 4 d o 0) 0 = some (A 5 d o 0) ∧ cd_kd w (A 5 d o 0) = 11 ∧ cd_ln w (A 5 d o 0) = 3
def rp_f (w : cd_Wd) (A : cd_A) (σ : cd_S) : Prop := ∀ d o f, d < sD σ → o < 12 → f < 3 → cd_O w 1005 (A 5 d o 0) f = some (A 6 d o f) ∧ cd_kd w (A 6 d o f) = 8 ∧ cd_I w 96 (A 6 d o f) 0 = (sF σ d o f).1 ∧ cd_I w 97 (A 6 d o f) 0 = cd_l (sF σ d o f).2.1 ∧ cd_O w 98 (A 6 d o f) 0 = (sF σ d o f).2.2.map (fun c => A 8 c 0 0)
def rp_s (w : cd_Wd) (A : cd_A) (σ : cd_S) : Prop := ∀ d i, d < sD σ → i < 8 → cd_O w 1006 (A 3 d 0 0) i = (sS σ d i).map (fun c => A 8 c 0 0)
def rp_c (w : cd_Wd) (A : cd_A) (σ : cd_S) : Prop := ∀ c, c < sC σ → cd_O w 1006 (A 7 0 0 0) c = some (A 8 c 0 0) ∧ cd_kd w (A 8 c 0 0) = 10 ∧ cd_O w 128 (A 8 c 0 0) 0 = some (A 1 (kH σ c) 0 0) ∧ cd_I w 129 (A 8 c 0 0) 0 = nI (kT σ c) ∧ cd_O w 130 (A 8 c 0 0) 0 = (kP σ c).map (fun c => A 8 c 0 0) ∧ cd_I w 131 (A 8 c 0 0) 0 = kR σ c ∧ cd_I w 132 (A 8 c 0 0) 0 = kU σ c ∧ cd_I w 133 (A 8 c 0 0) 0 = cd_b (kV σ c) ∧ cd_I w 134 (A 8 c 0 0) 0 = cd_b (kX σ c)
def rp_i (A : cd_A) (σ : cd_S) : Prop := ∀ k d o f k' d' o' f', cd_va σ k d o f → cd_va σ k' d' o' f' → A k d o f = A k' d' o' f' → k = k' ∧ d = d' ∧ o = o' ∧ f = f'
/-- what is always so of the numbers -/
def rp_w (σ : cd_S) : Prop := (∀ d i c, d < sD σ → i < 8 → sS σ d i = some c → c < sC σ) ∧ (∀ d o f c, d < sD σ → o < 12 → f < 3 → (sF σ d o f).2.2 = some c → c < sC σ) ∧ (∀ d o f t, d < sD σ → o < 12 → f < 3 → (sF σ d o f).2.1 = some t → t < 12) ∧
  (∀ c, c < sC σ → kH σ c < sD σ ∧ kT σ c < 12 ∧ ∀ q, kP σ c = some q → q < c)
def cd_Rep (w : cd_Wd) (x : Nat) (A : cd_A) (σ : cd_S) : Prop := rp_x w x A σ ∧ rp_d w A σ ∧ rp_o w A σ ∧ rp_f w A σ ∧ rp_s w A σ ∧ rp_c w A σ ∧ rp_i A σ ∧ rp_w σ
section RepR
variable {w : cd_Wd} {x : Nat} {A : cd_A} {σ : cd_S}
theorem cd_Rep.top (h : cd_Rep w x A σ) : rp_x w x A σ := h.1
theorem cd_Rep.d (h : cd_Rep w x A σ) {d : Nat} (hd : d < sD σ) : cd_O w 1003 (A 0 0 0 0) d = some (A 1 d 0 0) ∧ cd_kd w (A 1 d 0 0) = 4 ∧ cd_O w 33 (A 1 d 0 0) 0 = some (A 2 d 0 0) ∧ cd_kd w (A 2 d 0 0) = 9 ∧ cd_ln w (A 2 d 0 0) = 12 ∧ cd_O w 34 (A 1 d 0 0) 0 = some (A 3 d 0 0) ∧ cd_kd w (A 3 d 0 0) = 13 ∧ cd_ln w (A 3 d 0 0) = 8 ∧ cd_I w 32 (A 1 d 0 0) 0 = cd_b (sE σ d) := h.2.1 d hd
theorem cd_Rep.o (h : cd_Rep w x A σ) {d o : Nat} (hd : d < sD σ) (ho : o < 12) : cd_O w 1004 (A 2 d 0 0) o = some (A 4 d o 0) ∧ cd_kd w (A 4 d o 0) = 6 ∧ cd_I w 64 (A 4 d o 0) 0 = cd_b (sT σ d o) ∧ cd_O w 65 (A 4 d o 0) 0 = some (A 5 d o 0) ∧ cd_kd w (A 5 d o 0) = 11 ∧ cd_ln w (A 5 d o 0) = 3 := h.2.2.1 d o hd ho
theorem cd_Rep.f (h : cd_Rep w x A σ) {d o f : Nat} (hd : d < sD σ) (ho : o < 12) (hf : f < 3) : cd_O w 1005 (A 5 d o 0) f = some (A 6 d o f) ∧ cd_kd w (A 6 d o f) = 8 ∧ cd_I w 96 (A 6 d o f) 0 = (sF σ d o f).1 ∧ cd_I w 97 (A 6 d o f) 0 = cd_l (sF σ d o f).2.1 ∧ cd_O w 98 (A 6 d o f) 0 = (sF σ d o f).2.2.map (fun c => A 8 c 0 0) := h.2.2.2.1 d o f hd ho hf
theorem cd_Rep.s (h : cd_Rep w x A σ) {d i : Nat} (hd : d < sD σ) (hi : i < 8) : cd_O w 1006 (A 3 d 0 0) i = (sS σ d i).map (fun c => A 8 c 0 0) := h.2.2.2.2.1 d i hd hi
theorem cd_Rep.c (h : cd_Rep w x A σ) {c : Nat} (hc : c < sC σ) : cd_O w 1006 (A 7 0 0 0) c = some (A 8 c 0 0) ∧ cd_kd w (A 8 c 0 0) = 10 ∧ cd_O w 128 (A 8 c 0 0) 0 = some (A 1 (kH σ c) 0 0) ∧ cd_I w 129 (A 8 c 0 0) 0 = nI (kT σ c) ∧ cd_O w 130 (A 8 c 0 0) 0 = (kP σ c).map (fun c => A 8 c 0 0) ∧ cd_I w 131 (A 8 c 0 0) 0 = kR σ c ∧ cd_I w 132 (A 8 c 0 0) 0 = kU σ c ∧ cd_I w 133 (A 8 c 0 0) 0 = cd_b (kV σ c) ∧ cd_I w 134 (A 8 c 0 0) 0 = cd_b (kX σ c) := h.2.2.2.2.2.1 c hc
theorem cd_Rep.i (h : cd_Rep w x A σ) : rp_i A σ := h.2.2.2.2.2.2.1
theorem cd_Rep.wf (h : cd_Rep w x A σ) : rp_w σ := h.2.2.2.2.2.2.2
end RepR
/-! ### numbers that are indices -/
theorem ix_of {o : Int32} {n : Nat} (hn : n < 2 ^ 31) (h0 : ¬ o < 0) (h1 : ¬ nI n ≤ o) : ∃ j : Nat, j < n ∧ o = nI j := by
  rcases pk_ix o hn with h | h | h
  · exact absurd h h0
  · exact absurd h h1
  · exact h
theorem ix_in {j n : Nat} (h : j < n) (hn : n < 2 ^ 31) : vp_in (nI j) n := vp_in_nI h hn
theorem cd_b_ne {b : Bool} : ¬ cd_b b = 0 ↔ b = true := by cases b <;> decide
theorem cd_b_eq {b : Bool} : cd_b b = 0 ↔ b = false := by cases b <;> decide
theorem cd_b01 (b : Bool) : cd_b b = 0 ∨ cd_b b = 1 := by cases b <;> decide
theorem cd_l_eq {o : Option Nat} (h : ∀ t, o = some t → t < 12) : cd_l o = -1 ↔ o = none := by
  cases o with
  | none => exact ⟨fun _ => rfl, fun _ => rfl⟩
  | some t =>
    have ht := h t rfl
    refine ⟨fun h => ?_, fun h => by cases h⟩
    exfalso
    have h2 : nI t = -1 := h
    have h3 : (nI t).toInt = (-1 : Int32).toInt := by rw [h2]
    rw [nI_toInt (by omega)] at h3
    have h4 : (-1 : Int32).toInt = -1 := by decide
    omega
/-- does the domain d have the object of this number -/
def hasO (σ : cd_S) (d : Nat) (o : Int32) : Bool := decide (¬ o < 0) && decide (¬ nI 12 ≤ o) && sT σ d o.toNatClampNeg
theorem hasO_neg {σ : cd_S} {d : Nat} {o : Int32} (h : o < 0 ∨ nI 12 ≤ o) : hasO σ d o = false := by
  rcases h with h | h <;> simp [hasO, h]
theorem hasO_nI {σ : cd_S} {d j : Nat} (h : j < 12) : hasO σ d (nI j) = sT σ d j := by
  have h1 : ¬ nI j < 0 := nI_pos (by omega)
  have h2 : ¬ nI 12 ≤ nI j := nI_ge h (by omega)
  simp [hasO, h1, h2, nI_clamp (show j < 2 ^ 31 by omega)]
