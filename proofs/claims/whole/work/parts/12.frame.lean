/-! ===== what a method leaves as it was ===== -/
def cd_Fr (w w' : cd_Wd) (P : Nat → Prop) : Prop := ∀ b, cd_kd w b ≠ 0 → cd_kd w' b = cd_kd w b ∧ cd_ln w' b = cd_ln w b ∧ (¬ P b → (∀ t j, cd_I w' t b j = cd_I w t b j) ∧ (∀ t j, cd_O w' t b j = cd_O w t b j) ∧ ∀ j, cd_J w' b j = cd_J w b j)
theorem cd_Fr.rf {w : cd_Wd} {P : Nat → Prop} : cd_Fr w w P := fun _ _ => ⟨rfl, rfl, fun _ => ⟨fun _ _ => rfl, fun _ _ => rfl, fun _ => rfl⟩⟩
theorem cd_Fr.tr {w w' w'' : cd_Wd} {P : Nat → Prop} (h : cd_Fr w w' P) (h' : cd_Fr w' w'' P) : cd_Fr w w'' P := by
  intro b hb
  obtain ⟨a1, a2, a3⟩ := h b hb
  obtain ⟨b1, b2, b3⟩ := h' b (by rw [a1]; exact hb)
  refine ⟨b1.trans a1, b2.trans a2, fun hp => ?_⟩
  obtain ⟨c1, c2, c3⟩ := a3 hp
  obtain ⟨d1, d2, d3⟩ := b3 hp
  exact ⟨fun t j => (d1 t j).trans (c1 t j), fun t j => (d2 t j).trans (c2 t j), fun j => (d3 j).trans (c3 j)⟩
theorem cd_Fr.up {w w' : cd_Wd} {P P' : Nat → Prop} (h : cd_Fr w w' P) (hp : ∀ b, cd_kd w b ≠ 0 → P b → P' b) : cd_Fr w w' P' := fun b hb => ⟨(h b hb).1, (h b hb).2.1, fun n => (h b hb).2.2 fun z => n (hp b hb z)⟩
theorem cd_Fr.wI {w : cd_Wd} {P : Nat → Prop} {t a j : Nat} {v : Int32} (ha : P a) : cd_Fr w (cd_wI w t a j v) P := fun b _ => ⟨rfl, rfl, fun hn => ⟨fun t' j' => by rw [I_wI, if_neg (fun (z : t' = t ∧ b = a ∧ j' = j) => hn (z.2.1 ▸ ha))], fun _ _ => rfl, fun _ => rfl⟩⟩
theorem cd_Fr.wO {w : cd_Wd} {P : Nat → Prop} {t a j : Nat} {v : Option Nat} (ha : P a) : cd_Fr w (cd_wO w t a j v) P := fun b _ => ⟨rfl, rfl, fun hn => ⟨fun _ _ => rfl, fun t' j' => by rw [O_wO, if_neg (fun (z : t' = t ∧ b = a ∧ j' = j) => hn (z.2.1 ▸ ha))], fun _ => rfl⟩⟩
theorem cd_Fr.wJ {w : cd_Wd} {P : Nat → Prop} {a j : Nat} {v : Int64} (ha : P a) : cd_Fr w (cd_wJ w a j v) P := fun b _ => ⟨rfl, rfl, fun hn => ⟨fun _ _ => rfl, fun _ _ => rfl, fun j' => by rw [J_wJ, if_neg (fun (z : b = a ∧ j' = j) => hn (z.1 ▸ ha))]⟩⟩
theorem cd_Fr.wN {w : cd_Wd} {P : Nat → Prop} {q k n : Nat} (hq : cd_kd w q = 0) : cd_Fr w (cd_wN w q k n) P := fun b hb => by
  have hne : ¬ b = q := fun e => hb (e ▸ hq)
  refine ⟨by rw [kd_wN, if_neg hne], by rw [ln_wN, if_neg hne], fun _ => ⟨fun t j => by rw [I_wN, if_neg hne], fun t j => by rw [O_wN, if_neg hne], fun j => by rw [J_wN, if_neg hne]⟩⟩
/-- the class's own cells -/
def cd_ow (x : Nat) (A : cd_A) (σ : cd_S) (a : Nat) : Prop := a = x ∨ ∃ k d o f, cd_va σ k d o f ∧ a = A k d o f
theorem ow_at {x : Nat} {A : cd_A} {σ : cd_S} {k d o f : Nat} (h : cd_va σ k d o f) : cd_ow x A σ (A k d o f) := Or.inr ⟨k, d, o, f, h, rfl⟩
/-- one use less -/
def spend1 (σ : cd_S) (k : Nat) : cd_S := if 0 < kU σ k then setU σ k (kU σ k - 1) else σ
def spendL (σ : cd_S) : List Nat → cd_S
  | [] => σ
  | k :: ks => spendL (spend1 σ k) ks
theorem spend1_D (σ : cd_S) (k : Nat) : sD (spend1 σ k) = sD σ ∧ sC (spend1 σ k) = sC σ ∧ (∀ c, kP (spend1 σ k) c = kP σ c) ∧ (∀ d, sE (spend1 σ k) d = sE σ d) ∧ (∀ d o, sT (spend1 σ k) d o = sT σ d o) ∧ (∀ d o f, sF (spend1 σ k) d o f = sF σ d o f) ∧ (∀ d i, sS (spend1 σ k) d i = sS σ d i) ∧ (∀ c, kH (spend1 σ k) c = kH σ c) ∧ (∀ c, kT (spend1 σ k) c = kT σ c) ∧ (∀ c, kR (spend1 σ k) c = kR σ c) ∧ (∀ c, kV (spend1 σ k) c = kV σ c) ∧ (∀ c, kX (spend1 σ k) c = kX σ c) := by
  unfold spend1
  split
  · refine ⟨rfl, rfl, fun c => ?_, fun _ => rfl, fun _ _ => rfl, fun _ _ _ => rfl, fun _ _ => rfl, fun c => ?_, fun c => ?_, fun c => ?_, fun c => ?_, fun c => ?_⟩ <;>
    (simp only [setU, kP_setK, kH_setK, kT_setK, kR_setK, kV_setK, kX_setK]
     split <;> simp_all)
  · exact ⟨rfl, rfl, fun _ => rfl, fun _ => rfl, fun _ _ => rfl, fun _ _ _ => rfl, fun _ _ => rfl, fun _ => rfl, fun _ => rfl, fun _ => rfl, fun _ => rfl, fun _ => rfl⟩
theorem ancF_cg {σ τ : cd_S} (h : ∀ c, kP τ c = kP σ c) : ∀ n c, ancF τ n c = ancF σ n c := by
  intro n
  induction n with
  | zero => intro c; rfl
  | succ n ih =>
    intro c
    rw [ancF, ancF, h c]
    congr 1
    cases kP σ c with
    | none => rfl
    | some p => exact ih p
theorem anc_cg {σ τ : cd_S} (h : ∀ c, kP τ c = kP σ c) (c : Nat) : anc τ c = anc σ c := ancF_cg h _ _
theorem rep_ex {w : cd_Wd} {x : Nat} {A : cd_A} {σ : cd_S} (h : cd_Rep w x A σ) {k d o f : Nat} (hv : cd_va σ k d o f) : cd_kd w (A k d o f) ≠ 0 := by
  have ht := h.top
  match k, hv with
  | 0, hv => obtain ⟨rfl, rfl, rfl⟩ := hv; rw [ht.2.2.1]; decide
  | 1, hv => obtain ⟨hd, rfl, rfl⟩ := hv; rw [(h.d hd).2.1]; decide
  | 2, hv => obtain ⟨hd, rfl, rfl⟩ := hv; rw [(h.d hd).2.2.2.1]; decide
  | 3, hv => obtain ⟨hd, rfl, rfl⟩ := hv; rw [(h.d hd).2.2.2.2.2.2.1]; decide
  | 4, hv => obtain ⟨hd, ho, rfl⟩ := hv; rw [(h.o hd ho).2.1]; decide
  | 5, hv => obtain ⟨hd, ho, rfl⟩ := hv; rw [(h.o hd ho).2.2.2.2.1]; decide
  | 6, hv => obtain ⟨hd, ho, hf⟩ := hv; rw [(h.f hd ho hf).2.1]; decide
  | 7, hv => obtain ⟨rfl, rfl, rfl⟩ := hv; rw [ht.2.2.2.2.2.1]; decide
  | 8, hv => obtain ⟨hd, rfl, rfl⟩ := hv; rw [(h.c hd).2.1]; decide
  | 9, hv => obtain ⟨rfl, rfl, rfl⟩ := hv; rw [ht.2.2.2.2.2.2.2.2.1]; decide
  | 10, hv => obtain ⟨rfl, rfl, rfl⟩ := hv; rw [ht.2.2.2.2.2.2.2.2.2.2.1]; decide
  | 11, hv => obtain ⟨rfl, rfl, rfl⟩ := hv; rw [ht.2.2.2.2.2.2.2.2.2.2.2.2.2.1]; decide
  | 12, hv => obtain ⟨rfl, rfl, rfl⟩ := hv; rw [ht.2.2.2.2.2.2.2.2.2.2.2.2.2.2.2.2.1]; decide
  | k + 13, hv => exact hv.elim
