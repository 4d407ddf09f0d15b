/-! ===== what stays so: the invariant, and what the reference knows of the dead ===== -/
/-- the same but for uses and rights -/
def eqv (σ τ : cd_S) : Prop := sDC σ τ ∧ (∀ d, sE τ d = sE σ d) ∧ (∀ d o, sT τ d o = sT σ d o) ∧ (∀ d o f, sF τ d o f = sF σ d o f) ∧ (∀ d i, sS τ d i = sS σ d i) ∧ (∀ c, kH τ c = kH σ c) ∧ (∀ c, kT τ c = kT σ c) ∧ (∀ c, kP τ c = kP σ c) ∧ (∀ c, kV τ c = kV σ c) ∧ ∀ c, kX τ c = kX σ c
theorem die_cg {σ τ : cd_S} (h1 : ∀ d, sE τ d = sE σ d) (h2 : ∀ d o, sT τ d o = sT σ d o) (h3 : ∀ c, kH τ c = kH σ c) (h4 : ∀ c, kT τ c = kT σ c) (h5 : ∀ c, kP τ c = kP σ c) (h6 : ∀ c, kV τ c = kV σ c) (h7 : ∀ c, kX τ c = kX σ c) (c : Nat) : die τ c = die σ c := by
  simp only [die, h1, h2, h3, h4, h5, h6]
  cases kP σ c with
  | none => rfl
  | some p => simp only [h7]
theorem cd_Iv.eqv {σ τ : cd_S} (h : cd_Iv σ) (e : eqv σ τ) : cd_Iv τ := by
  obtain ⟨⟨e1, e2⟩, e3, e4, e5, e6, e7, e8, e9, e10, e11⟩ := e
  obtain ⟨a1, a2, a3, a4, a5⟩ := h
  refine ⟨fun d hd => ?_, fun c hc hx => ?_, fun d o f => by rw [e5]; exact a3 d o f, fun d o f t hd ho hf ht hl => ?_, fun d hd o ho => ?_⟩
  · obtain ⟨b1, b2, b3, b4⟩ := a1 d (by rw [← e1]; exact hd)
    exact ⟨by rw [e3]; exact b1, fun o => by rw [e4]; exact b2 o, fun o f => by rw [e5]; exact b3 o f, fun i => by rw [e6]; exact b4 i⟩
  · rw [die_cg e3 e4 e7 e8 e9 e10 e11]
    exact a2 c (by rw [← e2]; exact hc) (by rw [← e11]; exact hx)
  · rw [e4] at ht ⊢
    rw [e5] at hl
    exact a4 d o f t (by rw [← e1]; exact hd) ho hf ht hl
  · rw [e4]
    exact a5 d (by rw [← e3]; exact hd) o ho
theorem rd_cg {σ τ : cd_S} {g : Nat → Bool} (h1 : ∀ d, sE τ d = sE σ d) (h3 : ∀ c, kH τ c = kH σ c) (h5 : ∀ c, kP τ c = kP σ c) (c : Nat) : rd τ g c = rd σ g c := by
  rw [rd, rd, anc_cg h5]
  congr 1
  funext k
  rw [h3, h1]
theorem Rel.cg {σ τ : cd_S} {g : Nat → Bool} (h : Rel σ g) (h0 : sC τ = sC σ) (h1 : ∀ d, sE τ d = sE σ d) (h3 : ∀ c, kH τ c = kH σ c) (h5 : ∀ c, kP τ c = kP σ c) (h7 : ∀ c, kX τ c = kX σ c) : Rel τ g :=
  ⟨fun c hc => by rw [h7, rd_cg h1 h3 h5]; exact h.1 c (by rw [← h0]; exact hc), fun c hc => h.2 c (by rw [← h0]; exact hc)⟩
theorem eqv.rel {σ τ : cd_S} {g : Nat → Bool} (e : eqv σ τ) (h : Rel σ g) : Rel τ g := h.cg e.1.2 e.2.1 e.2.2.2.2.2.1 e.2.2.2.2.2.2.2.1 e.2.2.2.2.2.2.2.2.2
theorem spend_eqv (σ : cd_S) (c : Nat) : eqv σ (spend σ c) := by
  obtain ⟨a1, a2, a3, a4, a5, a6, a7, a8, a9, a10⟩ := spendL_D σ (anc σ c)
  exact ⟨spendL_DC σ _, a2, a3, a4, a5, a6, a7, a1, a9, a10⟩
/-! fields -/
theorem fOk_n (v : Int32) : fOk (v, none, none) := ⟨fun h => absurd rfl h, fun h => absurd rfl h⟩
theorem fOk_l (t : Nat) : fOk (0, some t, none) := ⟨fun _ => ⟨rfl, rfl⟩, fun h => absurd rfl h⟩
theorem fOk_c (c : Nat) : fOk (0, none, some c) := ⟨fun h => absurd rfl h, fun _ => rfl⟩
theorem Iv_setF {σ : cd_S} (h : cd_Iv σ) {d o f : Nat} {t : Int32 × Option Nat × Option Nat} (hd : d < sD σ) (ht : fOk t) (hl : ∀ z, t.2.1 = some z → sT σ d z = true) : cd_Iv (setF σ d o f t) := by
  obtain ⟨a1, a2, a3, a4, a5⟩ := h
  refine ⟨fun d' hd' => ?_, a2, fun d' o' f' => ?_, fun d' o' f' z hd' ho' hf' hT hz => ?_, a5⟩
  · obtain ⟨b1, b2, b3, b4⟩ := a1 d' hd'
    refine ⟨b1, b2, fun o' f' => ?_, b4⟩
    rw [sF_setF, if_neg (fun z => by have h1 : sD σ ≤ d' := hd'; omega)]
    exact b3 o' f'
  · rw [sF_setF]
    split
    · exact ht
    · exact a3 d' o' f'
  · rw [sF_setF] at hz
    split at hz
    · next e =>
      obtain ⟨rfl, rfl, rfl⟩ := e
      exact hl z hz
    · exact a4 d' o' f' z hd' ho' hf' hT hz
theorem Iv_setS {σ : cd_S} (h : cd_Iv σ) {d i : Nat} {r : Option Nat} (hd : d < sD σ) : cd_Iv (setS σ d i r) := by
  obtain ⟨a1, a2, a3, a4, a5⟩ := h
  refine ⟨fun d' hd' => ?_, a2, a3, a4, a5⟩
  obtain ⟨b1, b2, b3, b4⟩ := a1 d' hd'
  refine ⟨b1, b2, b3, fun i' => ?_⟩
  rw [sS_setS, if_neg (fun z => by have h1 : sD σ ≤ d' := hd'; omega)]
  exact b4 i'
theorem Iv_addD {σ : cd_S} (h : cd_Iv σ) : cd_Iv (addD σ) := by
  obtain ⟨a1, a2, a3, a4, a5⟩ := h
  refine ⟨fun d hd => a1 d (by have h1 : sD σ + 1 ≤ d := hd; omega), a2, a3, fun d o f t hd ho hf hT ht => ?_, a5⟩
  by_cases e : d = sD σ
  · subst e
    have z : sF (addD σ) (sD σ) o f = zF := (a1 (sD σ) (Nat.le_refl _)).2.2.1 o f
    rw [z] at ht; cases ht
  · exact a4 d o f t (by have h1 : d < sD σ + 1 := hd; omega) ho hf hT ht
theorem newO_Fz (σ : cd_S) (h o f : Nat) (hf : f < 3) : sF (newO σ h o) h o f = zF := by
  have h3 := itr_invL (s := fun τ f => setF τ h o f zF) (a := setT σ h o true) 3 (fun k τ => ∀ f, f < k → sF τ h o f = zF) (fun f hf => absurd hf (Nat.not_lt_zero f)) (fun τ k hk ih f hf => by
    rw [sF_setF]
    split
    · rfl
    · next e => exact ih f (by simp at e; omega)) 3 (Nat.le_refl _)
  exact h3 f hf
theorem newO_K (σ : cd_S) (h o : Nat) : (∀ d, sE (newO σ h o) d = sE σ d) ∧ (∀ d i, sS (newO σ h o) d i = sS σ d i) ∧ ∀ c, sK (newO σ h o) c = sK σ c := ⟨fun _ => rfl, fun _ _ => rfl, fun _ => rfl⟩
theorem newO_Fok {σ : cd_S} (h : ∀ d o f, fOk (sF σ d o f)) (hh o : Nat) : ∀ d' o' f', fOk (sF (newO σ hh o) d' o' f') := by
  refine itr_inv (s := fun τ f => setF τ hh o f zF) (a := setT σ hh o true) (fun τ => ∀ d' o' f', fOk (sF τ d' o' f')) h (fun τ k hk d' o' f' => ?_) 3
  rw [sF_setF]
  split
  · exact fOk_n 0
  · exact hk d' o' f'
theorem Iv_newO {σ : cd_S} (h : cd_Iv σ) {d o : Nat} (hd : d < sD σ) (he : sE σ d = false) : cd_Iv (newO σ d o) := by
  obtain ⟨a1, a2, a3, a4, a5⟩ := h
  have hDC := newO_DC σ d o
  refine ⟨fun d' hd' => ?_, fun c hc hx => ?_, newO_Fok a3 d o, fun d' o' f' t hd' ho' hf' hT ht => ?_, fun d' hd' o' ho' => ?_⟩
  · have hd2 : sD σ ≤ d' := hDC.1 ▸ hd'
    obtain ⟨b1, b2, b3, b4⟩ := a1 d' hd2
    refine ⟨b1, fun o' => ?_, fun o' f' => ?_, b4⟩
    · rw [newO_T, if_neg (fun z => by omega)]; exact b2 o'
    · rw [newO_F _ _ _ _ _ _ (fun z => by omega)]; exact b3 o' f'
  · have h1 := a2 c (hDC.2 ▸ hc) hx
    have e1 : die (newO σ d o) c = (kV σ c || sE σ (kH σ c) || !sT (newO σ d o) (kH σ c) (kT σ c) || (match kP σ c with
      | some p => kX σ p
      | none => false)) := rfl
    rw [e1, newO_T]
    rw [die] at h1
    simp only [Bool.or_eq_false_iff, Bool.not_eq_false'] at h1 ⊢
    refine ⟨⟨h1.1.1, ?_⟩, h1.2⟩
    split
    · rfl
    · exact h1.1.2
  · rw [newO_T] at hT ⊢
    have hd2 : d' < sD σ := hDC.1 ▸ hd'
    by_cases e : d' = d ∧ o' = o
    · obtain ⟨rfl, rfl⟩ := e
      rw [newO_Fz _ _ _ _ hf'] at ht
      cases ht
    · rw [if_neg e] at hT
      rw [newO_F _ _ _ _ _ _ e] at ht
      have := a4 d' o' f' t hd2 ho' hf' hT ht
      split
      · rfl
      · exact this
  · rw [newO_T]
    have h1 : sE σ d' = true := hd'
    rw [if_neg (fun z => by rw [z.1, he] at h1; cases h1)]
    exact a5 d' h1 o' ho'
theorem anc_lt {σ τ : cd_S} {n : Nat} (hk : ∀ k, k < n → kP τ k = kP σ k) (hp : ∀ k, k < n → ∀ q, kP σ k = some q → q < k) : ∀ r c, c < n → ancF τ r c = ancF σ r c := by
  intro r
  induction r with
  | zero => intro c _; rfl
  | succ r ih =>
    intro c hc
    rw [ancF, ancF, hk c hc]
    congr 1
    cases hq : kP σ c with
    | none => rfl
    | some p => exact ih p (Nat.lt_trans (hp c hc p hq) hc)
theorem anc_mem {σ : cd_S} (hp : ∀ c, c < sC σ → ∀ q, kP σ c = some q → q < c) : ∀ r c, c < sC σ → ∀ k ∈ ancF σ r c, k ≤ c := by
  intro r
  induction r with
  | zero => intro c _ k hk; cases hk
  | succ r ih =>
    intro c hc k hk
    rw [ancF] at hk
    rcases List.mem_cons.mp hk with rfl | hk
    · exact Nat.le_refl _
    · cases hq : kP σ c with
      | none => rw [hq] at hk; cases hk
      | some p =>
        rw [hq] at hk
        have h1 := hp c hc p hq
        have := ih p (by omega) k hk
        omega
theorem aK_lt {σ : cd_S} {t : Nat × Nat × Option Nat × Int32 × Int32 × Bool × Bool} {c : Nat} (h : c < sC σ) : sK (addK σ t) c = sK σ c := by rw [sK_aK, if_neg (by omega)]
theorem aK_new {σ : cd_S} {t : Nat × Nat × Option Nat × Int32 × Int32 × Bool × Bool} : sK (addK σ t) (sC σ) = t := by rw [sK_aK, if_pos rfl]
theorem rd_aK {σ : cd_S} {g : Nat → Bool} {t : Nat × Nat × Option Nat × Int32 × Int32 × Bool × Bool} (hp : ∀ c, c < sC σ → ∀ q, kP σ c = some q → q < c) {c : Nat} (hc : c < sC σ) : rd (addK σ t) g c = rd σ g c := by
  have e1 : anc (addK σ t) c = anc σ c := anc_lt (n := sC σ) (fun k hk => by simp only [kP, aK_lt hk]) hp _ c hc
  rw [rd, rd, e1]
  have : ∀ L : List Nat, (∀ k ∈ L, k < sC σ) → L.any (fun k => g k || sE (addK σ t) (kH (addK σ t) k)) = L.any (fun k => g k || sE σ (kH σ k)) := by
    intro L
    induction L with
    | nil => intro _; rfl
    | cons k L ih =>
      intro hL
      rw [List.any_cons, List.any_cons, ih fun y hy => hL y (List.mem_cons_of_mem _ hy)]
      have hk := hL k List.mem_cons_self
      have e2 : kH (addK σ t) k = kH σ k := by simp only [kH, aK_lt hk]
      rw [e2]
      rfl
  exact this _ fun k hk => Nat.lt_of_le_of_lt (anc_mem hp _ c hc k hk) hc
theorem Rel_addK {σ : cd_S} {g : Nat → Bool} (h : Rel σ g) (hp : ∀ c, c < sC σ → ∀ q, kP σ c = some q → q < c) {hm tg : Nat} {pa : Option Nat} {r u : Int32} (he : sE σ hm = false) (hq : ∀ p, pa = some p → p < sC σ ∧ kX σ p = false) : Rel (addK σ (hm, tg, pa, r, u, false, false)) g := by
  have hp' : ∀ c, c < sC (addK σ (hm, tg, pa, r, u, false, false)) → ∀ q, kP (addK σ (hm, tg, pa, r, u, false, false)) c = some q → q < c := by
    intro c hc q hqq
    by_cases e : c = sC σ
    · subst e
      simp only [kP, aK_new] at hqq
      exact (hq q hqq).1
    · have hc' : c < sC σ := by have h1 : c < sC σ + 1 := hc; omega
      simp only [kP, aK_lt hc'] at hqq
      exact hp c hc' q hqq
  refine ⟨fun c hc => ?_, fun c hc => h.2 c (by have h1 : sC σ + 1 ≤ c := hc; omega)⟩
  by_cases e : c = sC σ
  · subst e
    rw [rd_eq hp' hc]
    have e1 : kX (addK σ (hm, tg, pa, r, u, false, false)) (sC σ) = false := by simp only [kX, aK_new]
    have e2 : kH (addK σ (hm, tg, pa, r, u, false, false)) (sC σ) = hm := by simp only [kH, aK_new]
    have e3 : kP (addK σ (hm, tg, pa, r, u, false, false)) (sC σ) = pa := by simp only [kP, aK_new]
    have e4 : sE (addK σ (hm, tg, pa, r, u, false, false)) hm = false := he
    rw [e1, e2, e3, e4, h.2 (sC σ) (Nat.le_refl _)]
    cases pa with
    | none => rfl
    | some p =>
      obtain ⟨p1, p2⟩ := hq p rfl
      simp only [rd_aK hp p1, ← h.1 p p1, p2, Bool.or_self]
  · have hc' : c < sC σ := by have h1 : c < sC σ + 1 := hc; omega
    rw [rd_aK hp hc']
    have e1 : kX (addK σ (hm, tg, pa, r, u, false, false)) c = kX σ c := by simp only [kX, aK_lt hc']
    rw [e1]
    exact h.1 c hc'
theorem Iv_addK {σ : cd_S} (h : cd_Iv σ) (hp : ∀ c, c < sC σ → ∀ q, kP σ c = some q → q < c) {hm tg : Nat} {pa : Option Nat} {r u : Int32} (he : sE σ hm = false) (ht : sT σ hm tg = true) (hq : ∀ p, pa = some p → p < sC σ ∧ kX σ p = false) : cd_Iv (addK σ (hm, tg, pa, r, u, false, false)) := by
  obtain ⟨a1, a2, a3, a4, a5⟩ := h
  refine ⟨a1, fun c hc hx => ?_, a3, a4, a5⟩
  by_cases e : c = sC σ
  · subst e
    simp only [die, kV, kH, kT, kP, aK_new]
    have e4 : sE (addK σ (hm, tg, pa, r, u, false, false)) hm = false := he
    have e5 : sT (addK σ (hm, tg, pa, r, u, false, false)) hm tg = true := ht
    rw [e4, e5]
    cases pa with
    | none => rfl
    | some p =>
      obtain ⟨p1, p2⟩ := hq p rfl
      simp only [kX, aK_lt p1] at p2 ⊢
      simp [p2]
  · have hc' : c < sC σ := by have h1 : c < sC σ + 1 := hc; omega
    have h1 := a2 c hc' (by rw [← hx]; simp only [kX, aK_lt hc'])
    have e1 : die (addK σ (hm, tg, pa, r, u, false, false)) c = die σ c := by
      simp only [die, kV, kH, kT, kP, aK_lt hc']
      have e4 : ∀ d, sE (addK σ (hm, tg, pa, r, u, false, false)) d = sE σ d := fun _ => rfl
      have e5 : ∀ d o, sT (addK σ (hm, tg, pa, r, u, false, false)) d o = sT σ d o := fun _ _ => rfl
      rw [e4, e5]
      congr 1
      cases hk : (sK σ c).2.2.1 with
      | none => rfl
      | some p =>
        have := hp c hc' p hk
        simp only [kX, aK_lt (show p < sC σ by omega)]
    rw [e1]
    exact h1
/-! ### death spreads -/
def bsD (σ : cd_S) (c : Nat) : Bool := kV σ c || sE σ (kH σ c) || !sT σ (kH σ c) (kT σ c)
/-- the same but for the dead -/
def eqX (σ τ : cd_S) : Prop := sDC σ τ ∧ (∀ d, sE τ d = sE σ d) ∧ (∀ d o, sT τ d o = sT σ d o) ∧ (∀ d o f, sF τ d o f = sF σ d o f) ∧ (∀ d i, sS τ d i = sS σ d i) ∧ (∀ c, kH τ c = kH σ c ∧ kT τ c = kT σ c ∧ kP τ c = kP σ c ∧ kR τ c = kR σ c ∧ kU τ c = kU σ c ∧ kV τ c = kV σ c)
theorem setX_eqX (σ : cd_S) (c : Nat) (b : Bool) : eqX σ (setX σ c b) := by
  refine ⟨⟨rfl, rfl⟩, fun _ => rfl, fun _ _ => rfl, fun _ _ _ => rfl, fun _ _ => rfl, fun k => ?_⟩
  simp only [setX, kH_setK, kT_setK, kP_setK, kR_setK, kU_setK, kV_setK]
  by_cases e : k = c
  · subst e; simp
  · simp [e]
theorem eqX.tr {σ τ ρ : cd_S} (h : eqX σ τ) (h' : eqX τ ρ) : eqX σ ρ := by
  obtain ⟨a1, a2, a3, a4, a5, a6⟩ := h
  obtain ⟨b1, b2, b3, b4, b5, b6⟩ := h'
  refine ⟨a1.tr b1, fun d => (b2 d).trans (a2 d), fun d o => (b3 d o).trans (a3 d o), fun d o f => (b4 d o f).trans (a4 d o f), fun d i => (b5 d i).trans (a5 d i), fun c => ?_⟩
  obtain ⟨x1, x2, x3, x4, x5, x6⟩ := a6 c
  obtain ⟨y1, y2, y3, y4, y5, y6⟩ := b6 c
  exact ⟨y1.trans x1, y2.trans x2, y3.trans x3, y4.trans x4, y5.trans x5, y6.trans x6⟩
theorem eqX.base {σ τ : cd_S} (h : eqX σ τ) (c : Nat) : bsD τ c = bsD σ c := by
  obtain ⟨a1, a2, a3, a4, a5, a6⟩ := h
  obtain ⟨x1, x2, x3, x4, x5, x6⟩ := a6 c
  simp only [bsD, x1, x2, x6, a2, a3]
