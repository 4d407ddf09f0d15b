section RowsN
variable {G : cd_Gl} {l : Launch} {C : cd_Cx} {Q : State → Prop} {k n : Nat} {w : cd_Wd} {pc : Nat} {lv : List (Option Value)} {rest : List Value} {y : MethodName} {cc : ByteArray} {nL : Nat} {ret : Option FieldType} {ex : List (Nat × Nat × Nat × Nat)} {R : Room}
theorem g_ifnullS (O : cd_Ok G y cc nL ret ex R C) {a : Nat} {off : Int} (hd : decode cc pc = .ok (.ifnull off, 3)) (h : cd_Go G l C Q k n w (pc + 3) lv rest) : cd_Go G l C Q k n w pc lv (.ref a :: rest) :=
  fun H locs ls a b c => lv_ifnull O.1 O.2.1 hd (h H locs ls a b c)
theorem g_ifnullN (O : cd_Ok G y cc nL ret ex R C) {off : Int} (tgt : Nat) (hd : decode cc pc = .ok (.ifnull off, 3)) (ht : (pc : Int) + off = (tgt : Int)) (h : cd_Go G l C Q k n w tgt lv rest) : cd_Go G l C Q k n w pc lv (va_rf none :: rest) :=
  fun H locs ls a b c => lv_ifnullN O.1 O.2.1 hd ht (h H locs ls a b c)
theorem g_ifnonnullS (O : cd_Ok G y cc nL ret ex R C) {a : Nat} {off : Int} (tgt : Nat) (hd : decode cc pc = .ok (.ifnonnull off, 3)) (ht : (pc : Int) + off = (tgt : Int)) (h : cd_Go G l C Q k n w tgt lv rest) : cd_Go G l C Q k n w pc lv (.ref a :: rest) :=
  fun H locs ls a b c => lv_ifnonnull O.1 O.2.1 hd ht (h H locs ls a b c)
theorem g_ifnonnullN (O : cd_Ok G y cc nL ret ex R C) {off : Int} (hd : decode cc pc = .ok (.ifnonnull off, 3)) (h : cd_Go G l C Q k n w (pc + 3) lv rest) : cd_Go G l C Q k n w pc lv (va_rf none :: rest) :=
  fun H locs ls a b c => lv_ifnonnullN O.1 O.2.1 hd (h H locs ls a b c)
end RowsN
/-! ### the parents of a capability, itself first -/
def ancF (σ : cd_S) : Nat → Nat → List Nat
  | 0, _ => []
  | n + 1, c => c :: (match kP σ c with
    | some p => ancF σ n p
    | none => [])
def anc (σ : cd_S) (c : Nat) : List Nat := ancF σ (c + 1) c
theorem ancF_succ {σ : cd_S} (hp : ∀ c, c < sC σ → ∀ q, kP σ c = some q → q < c) : ∀ n c, c < n → c < sC σ → ancF σ n c = ancF σ (n + 1) c := by
  intro n
  induction n with
  | zero => intro c h; omega
  | succ n ih =>
    intro c hn hc
    rw [ancF, ancF]
    congr 1
    cases hk : kP σ c with
    | none => rfl
    | some p =>
      have hpc := hp c hc p hk
      exact ih p (by omega) (by omega)
theorem ancF_eq {σ : cd_S} (hp : ∀ c, c < sC σ → ∀ q, kP σ c = some q → q < c) {c : Nat} (hc : c < sC σ) : ∀ n, c < n → ancF σ n c = anc σ c := by
  intro n
  induction n with
  | zero => intro h; omega
  | succ n ih =>
    intro h
    by_cases e : c = n
    · subst e; rfl
    · rw [← ancF_succ hp n c (by omega) hc]
      exact ih (by omega)
theorem anc_eq {σ : cd_S} (hp : ∀ c, c < sC σ → ∀ q, kP σ c = some q → q < c) {c : Nat} (hc : c < sC σ) : anc σ c = c :: (match kP σ c with
    | some p => anc σ p
    | none => []) := by
  rw [anc, ancF]
  congr 1
  cases hk : kP σ c with
  | none => rfl
  | some p =>
    have hpc := hp c hc p hk
    exact ancF_eq hp (Nat.lt_trans hpc hc) c hpc
/-- has it, or one of its parents, no uses left -/
def upB (σ : cd_S) (c : Nat) : Bool := (anc σ c).any (fun k => decide (kU σ k = 0))
theorem upB_eq {σ : cd_S} (hp : ∀ c, c < sC σ → ∀ q, kP σ c = some q → q < c) {c : Nat} (hc : c < sC σ) : upB σ c = (decide (kU σ c = 0) || (match kP σ c with
    | some p => upB σ p
    | none => false)) := by
  rw [upB, anc_eq hp hc, List.any_cons]
  congr 1
  cases hk : kP σ c with
  | none => rfl
  | some p => rfl
