/-! ===== what each call of the class does to the state: its code (0: none thrown), its answer, the state after ===== -/
section RowsT
variable {G : cd_Gl} {l : Launch} {C : cd_Cx} {Q : State → Prop} {k n : Nat} {w : cd_Wd} {pc : Nat} {lv : List (Option Value)} {rest : List Value} {y : MethodName} {cc : ByteArray} {nL : Nat} {ret : Option FieldType} {ex : List (Nat × Nat × Nat × Nat)} {R : Room}
theorem g_tabO (O : cd_Ok G y cc nL ret ex R C) {dflt lo hi : Int} {offs : Array Int} {len : Nat} {x : Int32} (tgt : Nat) (hd : decode cc pc = .ok (.tableswitch dflt lo hi offs, len)) (hx : x.toInt < lo ∨ hi < x.toInt) (ht : (pc : Int) + dflt = (tgt : Int)) (h : cd_Go G l C Q k n w tgt lv rest) : cd_Go G l C Q k n w pc lv (.int x :: rest) :=
  fun H locs ls a b c => lv_tableOut O.1 O.2.1 hd hx ht (h H locs ls a b c)
theorem g_tabI (O : cd_Ok G y cc nL ret ex R C) {dflt lo hi : Int} {offs : Array Int} {len : Nat} {x v : Int32} (i : Nat) (tgt : Nat) {off : Int} (hd : decode cc pc = .ok (.tableswitch dflt lo hi offs, len)) (hx : x = v) (hv : v = nI i) (h1 : ¬ (nI i).toInt < lo) (h2 : ¬ hi < (nI i).toInt) (ho : offs[((nI i).toInt - lo).toNat]? = some off) (ht : (pc : Int) + off = (tgt : Int)) (h : cd_Go G l C Q k n w tgt lv rest) : cd_Go G l C Q k n w pc lv (.int x :: rest) := by
  subst hx hv
  exact fun H locs ls a b c => lv_tableIn O.1 O.2.1 hd h1 h2 ho ht (h H locs ls a b c)
end RowsT
abbrev cd_R : Type := Nat × Int32 × cd_S
def oc (e : Nat → Nat) (r : cd_R) : cd_Out := if r.1 = 0 then .inl (some (.int r.2.1)) else .inr (e r.1)
/-- what is so after a call -/
def CO (w : cd_Wd) (x : Nat) (A : cd_A) (σ : cd_S) (w' : cd_Wd) (A' : cd_A) (σ' : cd_S) : Prop := cd_Rep w' x A' σ' ∧ cd_Fr w w' (cd_ow x A σ) ∧ ∀ a, cd_ow x A' σ' a → cd_ow x A σ a ∨ cd_kd w a = 0
theorem CO.rf {w : cd_Wd} {x : Nat} {A : cd_A} {σ : cd_S} (h : cd_Rep w x A σ) : CO w x A σ w A σ := ⟨h, cd_Fr.rf, fun _ h => Or.inl h⟩
theorem CO.sm {w w' : cd_Wd} {x : Nat} {A : cd_A} {σ σ' : cd_S} (h : cd_Rep w' x A σ') (hF : cd_Fr w w' (cd_ow x A σ)) (hd : sDC σ σ') : CO w x A σ w' A σ' := ⟨h, hF, fun a ha => Or.inl ((ow_cg hd a).mp ha)⟩
theorem sDC.tr {σ τ ρ : cd_S} (h : sDC σ τ) (h' : sDC τ ρ) : sDC σ ρ := ⟨h'.1.trans h.1, h'.2.trans h.2⟩
/-- the first that is not -/
def ffr (p : Nat → Bool) : Nat → Nat
  | 0 => 0
  | n + 1 => if ffr p n = n then (if p n = true then n + 1 else n) else ffr p n
theorem ffr_all {p : Nat → Bool} {n : Nat} (h : ∀ i, i < n → p i = true) : ffr p n = n := by
  induction n with
  | zero => rfl
  | succ n ih => rw [ffr, ih fun i hi => h i (by omega), if_pos rfl, if_pos (h n (by omega))]
theorem ffr_eq {p : Nat → Bool} {n o : Nat} (ho : o < n) (hf : p o = false) (hl : ∀ i, i < o → p i = true) : ffr p n = o := by
  induction n with
  | zero => omega
  | succ n ih =>
    by_cases e : o = n
    · subst e
      rw [ffr, ffr_all hl, if_pos rfl, if_neg (by rw [hf]; decide)]
    · rw [ffr, ih (by omega), if_neg e]
theorem ffr_sp {p : Nat → Bool} {n : Nat} (h : cnt p n < n) : ffr p n < n ∧ p (ffr p n) = false ∧ ∀ i, i < ffr p n → p i = true := by
  induction n with
  | zero => omega
  | succ n ih =>
    rw [cnt] at h
    by_cases e : cnt p n < n
    · obtain ⟨h1, h2, h3⟩ := ih e
      have e1 : ffr p (n + 1) = ffr p n := by rw [ffr, if_neg (by omega)]
      rw [e1]
      exact ⟨by omega, h2, h3⟩
    · have hle := cnt_le p n
      have hall := cnt_full.mp (show cnt p n = n by omega)
      have hp : p n = false := by
        cases hz : p n with
        | false => rfl
        | true => rw [if_pos hz] at h; omega
      have e1 : ffr p (n + 1) = n := by rw [ffr, ffr_all hall, if_pos rfl, if_neg (by rw [hp]; decide)]
      rw [e1]
      exact ⟨by omega, hp, hall⟩
/-- the domain's first free number -/
def fo (σ : cd_S) (d : Nat) : Nat := ffr (sT σ d) 12
def rD (σ : cd_S) (d : Int32) (k : Nat → cd_R) : cd_R := if isD σ d = true then (if sE σ d.toNatClampNeg = true then (2, 0, σ) else k d.toNatClampNeg) else (1, 0, σ)
def sp_domain (σ : cd_S) : cd_R := if sD σ < 6 then (0, nI (sD σ), addD σ) else (1, 0, σ)
def sp_object (σ : cd_S) (d : Int32) : cd_R := rD σ d fun j => if cnt (sT σ j) 12 < 12 then (0, nI (fo σ j), newO σ j (fo σ j)) else (3, 0, σ)
def rF (σ : cd_S) (j : Nat) (o f : Int32) (k : Nat → Nat → cd_R) : cd_R := if hasO σ j o = true then (if isFi f = true then k o.toNatClampNeg f.toNatClampNeg else (4, 0, σ)) else (3, 0, σ)
def sp_set (σ : cd_S) (d o f v : Int32) : cd_R := rD σ d fun j => rF σ j o f fun i g => (0, (sF σ j i g).1, setF σ j i g (v, none, none))
def sp_link (σ : cd_S) (d o f t : Int32) : cd_R := rD σ d fun j => rF σ j o f fun i g => if hasO σ j t = true then (0, 0, setF σ j i g (0, some t.toNatClampNeg, none)) else (3, 0, σ)
def sp_hold (σ : cd_S) (d o f s : Int32) : cd_R := rD σ d fun j => rF σ j o f fun i g => if isSl s = true then (match sS σ j s.toNatClampNeg with
  | some c => (0, 0, setF σ j i g (0, none, some c))
  | none => (3, 0, σ)) else (4, 0, σ)
def sp_export (σ : cd_S) (d o s r u : Int32) : cd_R := if (isD σ d && isSl s) = true then (if isGr r u = true then (rD σ d fun j => if hasO σ j o = true then (if sC σ < 40 then (0, nI (sC σ + 1), setS (addK σ (j, o.toNatClampNeg, none, r, u, false, false)) j s.toNatClampNeg (some (sC σ))) else (4, 0, σ)) else (3, 0, σ)) else (1, 0, σ)) else (1, 0, σ)
def rS (σ : cd_S) (j : Nat) (s : Int32) (k : Nat → cd_R) : cd_R := match sS σ j s.toNatClampNeg with
  | some c => k c
  | none => (3, 0, σ)
def sp_narrow (σ : cd_S) (d s r u : Int32) : cd_R := if (isD σ d && isSl s) = true then (if isGr r u = true then (rD σ d fun j => rS σ j s fun c => if kX σ c = true then (2, 0, σ) else if alw σ c r = true then (if sC σ < 40 then (0, nI (sC σ + 1), setS (addK σ (kH σ c, kT σ c, some c, r, u, false, false)) j s.toNatClampNeg (some (sC σ))) else (5, 0, σ)) else (4, 0, σ)) else (1, 0, σ)) else (1, 0, σ)
def sp_give (σ : cd_S) (d s e t : Int32) : cd_R := if (isD σ d && isSl s) = true then (if (isD σ e && isSl t) = true then (rD σ d fun j => rD σ e fun i => rS σ j s fun c => (0, cd_b (sS σ i t.toNatClampNeg).isSome, setS σ i t.toNatClampNeg (some c))) else (1, 0, σ)) else (1, 0, σ)
def sp_revoke (σ : cd_S) (d s : Int32) : cd_R := if (isD σ d && isSl s) = true then (rD σ d fun j => rS σ j s fun c => if kH σ c = j then (0, nI (sprd (setV σ c true)).2, (sprd (setV σ c true)).1) else (4, 0, σ)) else (1, 0, σ)
/-- using a capability -/
def rU (σ : cd_S) (d s r : Int32) (k : Nat → Nat → cd_R) : cd_R := if (isD σ d && isSl s) = true then (rD σ d fun j => rS σ j s fun c => if (kX σ c || upB σ c) = true then (2, 0, σ) else if alw σ c r = true then k j c else (4, 0, σ)) else (1, 0, σ)
def spend (σ : cd_S) (c : Nat) : cd_S := spendL σ (anc σ c)
def isNm (t : Int32 × Option Nat × Option Nat) : Bool := t.2.1.isNone && t.2.2.isNone
def sp_read (σ : cd_S) (d s f : Int32) : cd_R := rU σ d s 1 fun _ c => if isFi f = true then (if isNm (sF σ (kH σ c) (kT σ c) f.toNatClampNeg) = true then (0, (sF σ (kH σ c) (kT σ c) f.toNatClampNeg).1, spend σ c) else (6, 0, σ)) else (5, 0, σ)
def wrF (σ : cd_S) (c : Nat) (f v : Int32) : cd_S := setF σ (kH σ c) (kT σ c) f.toNatClampNeg (v, none, none)
def sp_write (σ : cd_S) (d s f v : Int32) : cd_R := rU σ d s 2 fun _ c => if isFi f = true then (0, kU (spend (wrF σ c f v) c) c, spend (wrF σ c f v) c) else (5, 0, σ)
def sp_take (σ : cd_S) (d s f t : Int32) : cd_R := rU σ d s 8 fun j c => if isFi f = true then (if isSl t = true then (match (sF σ (kH σ c) (kT σ c) f.toNatClampNeg).2.2 with
  | some e => (0, cd_b (sS (spend σ c) j t.toNatClampNeg).isSome, setS (spend σ c) j t.toNatClampNeg (some e))
  | none => (6, 0, σ)) else (5, 0, σ)) else (5, 0, σ)
def sp_free (σ : cd_S) (d s : Int32) : cd_R := rU σ d s 16 fun _ c => (0, nI (remO (spend σ c) (kH σ c) (kT σ c)).2, (sprd (remO (spend σ c) (kH σ c) (kT σ c)).1).1)
def sp_end (σ : cd_S) (d : Int32) : cd_R := rD σ d fun j => (0, nI (sprd (finD σ j)).2, (sprd (finD σ j)).1)
def sv_holds (σ : cd_S) (d o f : Int32) : Int32 := if isFd σ d o f = true then (match sF σ d.toNatClampNeg o.toNatClampNeg f.toNatClampNeg with
  | (_, _, some c) => if kX σ c = true then 3 else 2
  | (_, some _, none) => 1
  | (_, none, none) => 0) else -1
def sv_linked (σ : cd_S) (d o f : Int32) : Int32 := if isFd σ d o f = true then cd_l (sF σ d.toNatClampNeg o.toNatClampNeg f.toNatClampNeg).2.1 else -1
def sv_slot (σ : cd_S) (d s : Int32) : Int32 := if isD σ d = true then (if sE σ d.toNatClampNeg = true then -1 else if isSl s = true then (match sS σ d.toNatClampNeg s.toNatClampNeg with
  | none => 0
  | some c => if kX σ c = true then 2 else 1) else -1) else -1
def sv_count (σ : cd_S) (a : Int32) : Int32 := if a = 0 then nI (sD σ) else if a = 1 then nI (cnt (fun d => !sE σ d) (sD σ)) else if a = 2 then nI (sC σ) else if a = 3 then nI (cnt (fun c => !kX σ c) (sC σ)) else if a < 4 then -1 else if 10 ≤ a then -1 else (if isD σ (a - 4) = true then nI (cnt (sT σ (a - 4).toNatClampNeg) 12) else 0)
/-- what is always so: a living capability's target is there, nothing forces it to die; what is not made is as new; a field is an int, a link or a capability -/
def fOk (t : Int32 × Option Nat × Option Nat) : Prop := (t.2.1 ≠ none → t.1 = 0 ∧ t.2.2 = none) ∧ (t.2.2 ≠ none → t.1 = 0)
def cd_Iv (σ : cd_S) : Prop := dfl σ ∧ (∀ c, c < sC σ → kX σ c = false → die σ c = false) ∧ (∀ d o f, fOk (sF σ d o f)) ∧ (∀ d o f t, d < sD σ → o < 12 → f < 3 → sT σ d o = true → (sF σ d o f).2.1 = some t → sT σ d t = true) ∧ ∀ d, sE σ d = true → ∀ o, o < 12 → sT σ d o = false
theorem cd_Iv.th {σ : cd_S} (h : cd_Iv σ) {c : Nat} (hc : c < sC σ) (hx : kX σ c = false) : sT σ (kH σ c) (kT σ c) = true ∧ sE σ (kH σ c) = false := by
  have h1 := h.2.1 c hc hx
  simp only [die, Bool.or_eq_false_iff, Bool.not_eq_false'] at h1
  exact ⟨h1.1.2, h1.1.1.2⟩
def ex_domain : Nat → Nat := fun _ => 2
def ex_object : Nat → Nat
  | 1 => 1
  | 2 => 2
  | _ => 6
def ex_set : Nat → Nat
  | 1 => 1
  | 2 => 2
  | 3 => 3
  | _ => 5
def ex_export : Nat → Nat
  | 1 => 1
  | 2 => 2
  | 3 => 3
  | _ => 6
def ex_narrow : Nat → Nat
  | 1 => 1
  | 2 => 2
  | 3 => 3
  | 4 => 4
  | _ => 6
theorem spendL_DC (σ : cd_S) (ks : List Nat) : sDC σ (spendL σ ks) := by
  induction ks generalizing σ with
  | nil => exact ⟨rfl, rfl⟩
  | cons k ks ih =>
    obtain ⟨z1, z2, -⟩ := spend1_D σ k
    obtain ⟨h1, h2⟩ := ih (spend1 σ k)
    exact ⟨h1.trans z1, h2.trans z2⟩
theorem spendL_D (σ : cd_S) (ks : List Nat) : (∀ c, kP (spendL σ ks) c = kP σ c) ∧ (∀ d, sE (spendL σ ks) d = sE σ d) ∧ (∀ d o, sT (spendL σ ks) d o = sT σ d o) ∧ (∀ d o f, sF (spendL σ ks) d o f = sF σ d o f) ∧ (∀ d i, sS (spendL σ ks) d i = sS σ d i) ∧ (∀ c, kH (spendL σ ks) c = kH σ c) ∧ (∀ c, kT (spendL σ ks) c = kT σ c) ∧ (∀ c, kR (spendL σ ks) c = kR σ c) ∧ (∀ c, kV (spendL σ ks) c = kV σ c) ∧ (∀ c, kX (spendL σ ks) c = kX σ c) := by
  induction ks generalizing σ with
  | nil => exact ⟨fun _ => rfl, fun _ => rfl, fun _ _ => rfl, fun _ _ _ => rfl, fun _ _ => rfl, fun _ => rfl, fun _ => rfl, fun _ => rfl, fun _ => rfl, fun _ => rfl⟩
  | cons k ks ih =>
    obtain ⟨-, -, z3, z4, z5, z6, z7, z8, z9, z10, z11, z12⟩ := spend1_D σ k
    obtain ⟨a1, a2, a3, a4, a5, a6, a7, a8, a9, a10⟩ := ih (spend1 σ k)
    exact ⟨fun c => (a1 c).trans (z3 c), fun d => (a2 d).trans (z4 d), fun d o => (a3 d o).trans (z5 d o), fun d o f => (a4 d o f).trans (z6 d o f), fun d i => (a5 d i).trans (z7 d i), fun c => (a6 c).trans (z8 c), fun c => (a7 c).trans (z9 c), fun c => (a8 c).trans (z10 c), fun c => (a9 c).trans (z11 c), fun c => (a10 c).trans (z12 c)⟩
