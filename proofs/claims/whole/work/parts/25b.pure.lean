theorem setX_X (σ : cd_S) (c : Nat) (b : Bool) (k : Nat) : kX (setX σ c b) k = if k = c then b else kX σ k := by
  simp only [setX, kX_setK]
theorem die_bs (σ : cd_S) (c : Nat) : die σ c = (bsD σ c || (match kP σ c with
    | some p => kX σ p
    | none => false)) := rfl
/-- the death of one out of its parent's -/
def xP (τ : cd_S) (c : Nat) : Bool := match kP τ c with
  | some p => kX τ p
  | none => false
theorem sprd_ok {σ : cd_S} (hp : ∀ c, c < sC σ → ∀ q, kP σ c = some q → q < c) : ∀ n, n ≤ sC σ → eqX σ (itr sp1 (σ, 0) n).1 ∧ (∀ c, n ≤ c → kX (itr sp1 (σ, 0) n).1 c = kX σ c) ∧ (∀ c, c < n → kX (itr sp1 (σ, 0) n).1 c = (kX σ c || bsD σ c || xP (itr sp1 (σ, 0) n).1 c)) ∧ (itr sp1 (σ, 0) n).2 = cnt (fun c => !kX σ c && kX (itr sp1 (σ, 0) n).1 c) n := by
  intro n
  induction n with
  | zero => intro _; exact ⟨⟨⟨rfl, rfl⟩, fun _ => rfl, fun _ _ => rfl, fun _ _ _ => rfl, fun _ _ => rfl, fun _ => ⟨rfl, rfl, rfl, rfl, rfl, rfl⟩⟩, fun _ _ => rfl, fun c hc => absurd hc (Nat.not_lt_zero c), rfl⟩
  | succ n ih =>
    intro hn
    obtain ⟨a1, a2, a3, a4⟩ := ih (by omega)
    rw [itr_s]
    generalize itr sp1 (σ, 0) n = p at a1 a2 a3 a4
    obtain ⟨τ, k⟩ := p
    simp only at a1 a2 a3 a4
    have hXn : kX τ n = kX σ n := a2 n (Nat.le_refl _)
    have hbs : bsD τ n = bsD σ n := a1.base n
    have hxp : ∀ c, c < n → xP τ c = (match kP σ c with
        | some p => kX τ p
        | none => false) := fun c hc => by rw [xP, (a1.2.2.2.2.2 c).2.2.1]
    have hpar : ∀ c, c ≤ n → ∀ q, kP τ c = some q → q < c := fun c hc q hq => hp c (by omega) q (by rw [← (a1.2.2.2.2.2 c).2.2.1]; exact hq)
    unfold sp1
    simp only
    by_cases hc : kX τ n = false ∧ die τ n = true
    · rw [if_pos hc]
      simp only
      have hX : ∀ c, kX (setX τ n true) c = if c = n then true else kX τ c := setX_X τ n true
      have hxP : ∀ c, c ≤ n → xP (setX τ n true) c = xP τ c := by
        intro c hcn
        unfold xP
        rw [((setX_eqX τ n true).2.2.2.2.2 c).2.2.1]
        cases hq : kP τ c with
        | none => rfl
        | some q =>
          have := hpar c hcn q hq
          simp only [hX, if_neg (show ¬ q = n by omega)]
      refine ⟨a1.tr (setX_eqX τ n true), fun c hcn => ?_, fun c hcn => ?_, ?_⟩
      · rw [hX, if_neg (by omega)]; exact a2 c (by omega)
      · rw [hX, hxP c (by omega)]
        by_cases e : c = n
        · subst e
          rw [if_pos rfl, ← hbs]
          have hd := hc.2
          rw [die_bs] at hd
          rw [Bool.or_assoc]
          have : (bsD τ c || xP τ c) = true := hd
          rw [this, Bool.or_true]
        · rw [if_neg e]; exact a3 c (by omega)
      · have e1 : cnt (fun c => !kX σ c && kX (setX τ n true) c) n = cnt (fun c => !kX σ c && kX τ c) n := cnt_cg fun j hj => by simp only [hX, if_neg (show ¬ j = n by omega)]
        rw [cnt_t (by simp only [hX, if_true, Bool.and_true, ← hXn, hc.1]; rfl), e1, a4]
    · rw [if_neg hc]
      simp only
      have hx : xP τ n = (match kP τ n with
        | some p => kX τ p
        | none => false) := rfl
      refine ⟨a1, fun c hcn => a2 c (by omega), fun c hcn => ?_, ?_⟩
      · by_cases e : c = n
        · subst e
          rw [← hXn, ← hbs]
          cases hz : kX τ c with
          | true => simp
          | false =>
            have hd : die τ c = false := by
              cases hd : die τ c with
              | false => rfl
              | true => exact absurd ⟨hz, hd⟩ hc
            rw [die_bs] at hd
            have : (bsD τ c || xP τ c) = false := hd
            rw [Bool.or_assoc, this]; rfl
        · exact a3 c (by omega)
      · rw [cnt_f (by rw [hXn]; cases kX σ n <;> rfl), a4]
theorem cnt_split {p q : Nat → Bool} (h : ∀ c, p c = true → q c = true) (n : Nat) : cnt (fun c => !p c) n = cnt (fun c => !q c) n + cnt (fun c => !p c && q c) n := by
  induction n with
  | zero => rfl
  | succ n ih =>
    simp only [cnt, ih]
    have := h n
    by_cases hp : p n = true <;> by_cases hq : q n = true <;> simp [hp, hq] <;> first | omega | exact absurd (this hp) hq
/-- a state with σ's capabilities, in which some must die: the reference's g' and its ended say the same of them -/
def Spr (σ σ1 : cd_S) (g g' : Nat → Bool) : Prop := (sC σ1 = sC σ) ∧ (∀ c, kP σ1 c = kP σ c) ∧ (∀ c, kH σ1 c = kH σ c) ∧ (∀ c, kX σ1 c = kX σ c) ∧ (∀ c, c < sC σ → ∀ q, kP σ c = some q → q < c) ∧ (Rel σ g) ∧ (∀ c, g c = true → g' c = true) ∧ (∀ d, sE σ d = true → sE σ1 d = true) ∧ (∀ c, sC σ ≤ c → g' c = false) ∧ (∀ c, c < sC σ → g' c = true → kX σ c = true ∨ bsD σ1 c = true) ∧ (∀ c, c < sC σ → kX σ c = false → bsD σ1 c = true → (g' c || sE σ1 (kH σ c)) = true)
theorem Spr.c {σ σ1 : cd_S} {g g' : Nat → Bool} (z : Spr σ σ1 g g') : sC σ1 = sC σ := z.1
theorem Spr.p {σ σ1 : cd_S} {g g' : Nat → Bool} (z : Spr σ σ1 g g') : ∀ c, kP σ1 c = kP σ c := z.2.1
theorem Spr.h {σ σ1 : cd_S} {g g' : Nat → Bool} (z : Spr σ σ1 g g') : ∀ c, kH σ1 c = kH σ c := z.2.2.1
theorem Spr.x {σ σ1 : cd_S} {g g' : Nat → Bool} (z : Spr σ σ1 g g') : ∀ c, kX σ1 c = kX σ c := z.2.2.2.1
theorem Spr.par {σ σ1 : cd_S} {g g' : Nat → Bool} (z : Spr σ σ1 g g') : ∀ c, c < sC σ → ∀ q, kP σ c = some q → q < c := z.2.2.2.2.1
theorem Spr.rel {σ σ1 : cd_S} {g g' : Nat → Bool} (z : Spr σ σ1 g g') : Rel σ g := z.2.2.2.2.2.1
theorem Spr.gm {σ σ1 : cd_S} {g g' : Nat → Bool} (z : Spr σ σ1 g g') : ∀ c, g c = true → g' c = true := z.2.2.2.2.2.2.1
theorem Spr.em {σ σ1 : cd_S} {g g' : Nat → Bool} (z : Spr σ σ1 g g') : ∀ d, sE σ d = true → sE σ1 d = true := z.2.2.2.2.2.2.2.1
theorem Spr.g0 {σ σ1 : cd_S} {g g' : Nat → Bool} (z : Spr σ σ1 g g') : ∀ c, sC σ ≤ c → g' c = false := z.2.2.2.2.2.2.2.2.1
theorem Spr.h3 {σ σ1 : cd_S} {g g' : Nat → Bool} (z : Spr σ σ1 g g') : ∀ c, c < sC σ → g' c = true → kX σ c = true ∨ bsD σ1 c = true := z.2.2.2.2.2.2.2.2.2.1
theorem Spr.h4 {σ σ1 : cd_S} {g g' : Nat → Bool} (z : Spr σ σ1 g g') : ∀ c, c < sC σ → kX σ c = false → bsD σ1 c = true → (g' c || sE σ1 (kH σ c)) = true := z.2.2.2.2.2.2.2.2.2.2
theorem rd_mono {σ σ1 : cd_S} {g g' : Nat → Bool} (h : Spr σ σ1 g g') (c : Nat) (hr : rd σ g c = true) : rd σ1 g' c = true := by
  rw [rd, anc_cg h.p]
  rw [rd] at hr
  obtain ⟨k, hk, he⟩ := List.any_eq_true.mp hr
  refine List.any_eq_true.mpr ⟨k, hk, ?_⟩
  rw [h.h]
  rcases Bool.or_eq_true_iff.mp he with he | he
  · rw [h.gm k he]; rfl
  · rw [h.em _ he, Bool.or_true]
theorem spr_ok {σ σ1 : cd_S} {g g' : Nat → Bool} (h : Spr σ σ1 g g') : Rel (sprd σ1).1 g' ∧ (∀ c, c < sC σ → kX σ c = true → kX (sprd σ1).1 c = true) ∧ (sprd σ1).2 = cnt (fun c => !kX σ c && kX (sprd σ1).1 c) (sC σ) ∧ eqX σ1 (sprd σ1).1 ∧ ∀ c, c < sC σ → kX (sprd σ1).1 c = false → die (sprd σ1).1 c = false := by
  have hp1 : ∀ c, c < sC σ1 → ∀ q, kP σ1 c = some q → q < c := fun c hc q hq => h.par c (by rw [← h.c]; exact hc) q (by rw [← h.p]; exact hq)
  obtain ⟨a1, a2, a3, a4⟩ := sprd_ok hp1 (sC σ1) (Nat.le_refl _)
  have eτ : itr sp1 (σ1, 0) (sC σ1) = sprd σ1 := rfl
  rw [eτ] at a1 a2 a3 a4
  generalize sprd σ1 = p at a1 a2 a3 a4
  obtain ⟨τ, n⟩ := p
  simp only at a1 a2 a3 a4 ⊢
  have hP : ∀ c, kP τ c = kP σ1 c := fun c => (a1.2.2.2.2.2 c).2.2.1
  have hH : ∀ c, kH τ c = kH σ1 c := fun c => (a1.2.2.2.2.2 c).1
  have hCτ : sC τ = sC σ := a1.1.2.trans h.c
  have hpτ : ∀ c, c < sC τ → ∀ q, kP τ c = some q → q < c := fun c hc q hq => h.par c (by rw [← hCτ]; exact hc) q (by rw [← h.p, ← hP]; exact hq)
  have hr : ∀ c, rd τ g' c = rd σ1 g' c := rd_cg a1.2.1 hH hP
  have hbs : ∀ c, bsD τ c = bsD σ1 c := fun c => a1.base c
  have main : ∀ m c, c < m → c < sC σ → kX τ c = rd τ g' c := by
    intro m
    induction m with
    | zero => intro c hc; omega
    | succ m ih =>
      intro c hcm hc
      have e2 := rd_eq (g := g') hpτ (show c < sC τ by rw [hCτ]; exact hc)
      have e1 := a3 c (by rw [h.c]; exact hc)
      have eP : xP τ c = (match kP τ c with
        | some p => rd τ g' p
        | none => false) := by
        unfold xP
        cases hk : kP τ c with
        | none => rfl
        | some p =>
          have := hpτ c (by rw [hCτ]; exact hc) p hk
          exact ih p (by omega) (by omega)
      have e2 : rd τ g' c = (g' c || sE τ (kH τ c) || xP τ c) := e2.trans (congrArg (fun z => g' c || sE τ (kH τ c) || z) eP.symm)
      have eE : sE τ (kH τ c) = sE σ1 (kH σ c) := by rw [a1.2.1, hH, h.h]
      rw [eE] at e2
      rw [Bool.eq_iff_iff]
      constructor
      · intro hx
        rw [e1, h.x] at hx
        rcases Bool.or_eq_true_iff.mp hx with hx | hx
        · rcases Bool.or_eq_true_iff.mp hx with hx | hx
          · rw [hr]
            exact rd_mono h c (by rw [← h.rel.1 c hc]; exact hx)
          · cases hX : kX σ c with
            | true => rw [hr]; exact rd_mono h c (by rw [← h.rel.1 c hc]; exact hX)
            | false => rw [e2, h.h4 c hc hX hx]; rfl
        · rw [e2, hx, Bool.or_true]
      · intro hx
        rw [e2] at hx
        rw [e1, h.x]
        rcases Bool.or_eq_true_iff.mp hx with hx | hx
        · rcases Bool.or_eq_true_iff.mp hx with hx | hx
          · rcases h.h3 c hc hx with q | q <;> rw [q] <;> simp
          · have : bsD σ1 c = true := by rw [bsD, h.h, hx]; simp
            rw [this]; simp
        · rw [hx, Bool.or_true]
  refine ⟨⟨fun c hc => main (c + 1) c (by omega) (by rw [← hCτ]; exact hc), fun c hc => h.g0 c (by rw [← hCτ]; exact hc)⟩, fun c hc hx => ?_, ?_, a1, fun c hc hx => ?_⟩
  · rw [a3 c (by rw [h.c]; exact hc), h.x, hx]; rfl
  · rw [a4, h.c]
    exact cnt_cg fun j _ => by rw [h.x]
  · have e1 := a3 c (by rw [h.c]; exact hc)
    rw [hx] at e1
    have e2 := Bool.or_eq_false_iff.mp e1.symm
    have e3 := Bool.or_eq_false_iff.mp e2.1
    rw [die_bs, hbs, e3.2]
    exact e2.2
theorem cd_Iv.lv {σ : cd_S} (h : cd_Iv σ) {c : Nat} (hc : c < sC σ) (hx : kX σ c = false) : kV σ c = false ∧ sE σ (kH σ c) = false ∧ sT σ (kH σ c) (kT σ c) = true := by
  have h1 := h.2.1 c hc hx
  simp only [die, Bool.or_eq_false_iff, Bool.not_eq_false'] at h1
  exact ⟨h1.1.1.1, h1.1.1.2, h1.1.2⟩
theorem rel_g {σ : cd_S} {g : Nat → Bool} (hp : ∀ c, c < sC σ → ∀ q, kP σ c = some q → q < c) (h : Rel σ g) {c : Nat} (hc : c < sC σ) (hg : g c = true) : kX σ c = true := by
  rw [h.1 c hc, rd_eq hp hc, hg]; rfl
/-- the spread state keeps the invariant -/
theorem Iv_sprd {σ σ1 : cd_S} {g g' : Nat → Bool} (h : Spr σ σ1 g g') (h1 : dfl σ1) (h3 : ∀ d o f, fOk (sF σ1 d o f)) (h4 : ∀ d o f t, d < sD σ1 → o < 12 → f < 3 → sT σ1 d o = true → (sF σ1 d o f).2.1 = some t → sT σ1 d t = true) (h5 : ∀ d, sE σ1 d = true → ∀ o, o < 12 → sT σ1 d o = false) : cd_Iv (sprd σ1).1 := by
  obtain ⟨-, -, -, a1, a5⟩ := spr_ok h
  obtain ⟨⟨e1, e2⟩, e3, e4, e5, e6, e7⟩ := a1
  refine ⟨fun d hd => ?_, fun c hc => a5 c (by rw [← h.c, ← e2]; exact hc), fun d o f => by rw [e5]; exact h3 d o f, fun d o f t hd ho hf hT ht => ?_, fun d hd o ho => ?_⟩
  · obtain ⟨b1, b2, b3, b4⟩ := h1 d (by rw [← e1]; exact hd)
    exact ⟨by rw [e3]; exact b1, fun o => by rw [e4]; exact b2 o, fun o f => by rw [e5]; exact b3 o f, fun i => by rw [e6]; exact b4 i⟩
  · rw [e4] at hT ⊢
    rw [e5] at ht
    exact h4 d o f t (by rw [← e1]; exact hd) ho hf hT ht
  · rw [e4]
    exact h5 d (by rw [← e3]; exact hd) o ho
/-! ### revoke -/
theorem spr_V {σ : cd_S} {g : Nat → Bool} (hI : cd_Iv σ) (hL : Rel σ g) (hp : ∀ c, c < sC σ → ∀ q, kP σ c = some q → q < c) {c0 : Nat} (hc0 : c0 < sC σ) : Spr σ (setV σ c0 true) g (fun k => if k = c0 then true else g k) := by
  have kk : ∀ c, kP (setV σ c0 true) c = kP σ c ∧ kH (setV σ c0 true) c = kH σ c ∧ kX (setV σ c0 true) c = kX σ c ∧ kT (setV σ c0 true) c = kT σ c ∧ kV (setV σ c0 true) c = if c = c0 then true else kV σ c := by
    intro c
    simp only [setV, kP_setK, kH_setK, kX_setK, kT_setK, kV_setK]
    by_cases e : c = c0
    · subst e; simp
    · simp [e]
  refine ⟨rfl, fun c => (kk c).1, fun c => (kk c).2.1, fun c => (kk c).2.2.1, hp, hL, fun c hc => ?_, fun d hd => hd, fun c hc => ?_, fun c hc hg => ?_, fun c hc hx hb => ?_⟩
  · simp only [hc]; split <;> rfl
  · show (if c = c0 then true else g c) = false
    rw [if_neg (by omega)]; exact hL.2 c hc
  · have hg : (if c = c0 then true else g c) = true := hg
    by_cases e : c = c0
    · subst e
      exact Or.inr (by rw [bsD, (kk c).2.2.2.2, if_pos rfl]; rfl)
    · rw [if_neg e] at hg
      exact Or.inl (rel_g hp hL hc hg)
  · show ((if c = c0 then true else g c) || sE (setV σ c0 true) (kH σ c)) = true
    by_cases e : c = c0
    · rw [if_pos e]; rfl
    · obtain ⟨l1, l2, l3⟩ := hI.lv hc hx
      rw [bsD, (kk c).2.1, (kk c).2.2.2.1, (kk c).2.2.2.2, if_neg e, l1] at hb
      have e1 : ∀ d, sE (setV σ c0 true) d = sE σ d := fun _ => rfl
      have e2 : ∀ d o, sT (setV σ c0 true) d o = sT σ d o := fun _ _ => rfl
      rw [e1, e2, l2, l3] at hb
      cases hb
theorem Iv_revoke {σ : cd_S} {g : Nat → Bool} (hI : cd_Iv σ) (hL : Rel σ g) (hp : ∀ c, c < sC σ → ∀ q, kP σ c = some q → q < c) {c0 : Nat} (hc0 : c0 < sC σ) : cd_Iv (sprd (setV σ c0 true)).1 := Iv_sprd (spr_V hI hL hp hc0) hI.1 hI.2.2.1 hI.2.2.2.1 hI.2.2.2.2
/-! ### free -/
theorem ulF_T (d t o : Nat) (p : cd_S × Nat) (f d' o' : Nat) : sT (ulF d t o p f).1 d' o' = sT p.1 d' o' := by unfold ulF; split <;> rfl
theorem ulO_T (d t : Nat) (p : cd_S × Nat) (o d' o' : Nat) : sT (ulO d t p o).1 d' o' = sT p.1 d' o' := by
  unfold ulO
  split
  · exact itr_inv (s := ulF d t o) (fun q : cd_S × Nat => sT q.1 d' o' = sT p.1 d' o') rfl (fun b j hb => (ulF_T d t o b j d' o').trans hb) 3
  · rfl
theorem remO_T (σ : cd_S) (d t d' o' : Nat) : sT (remO σ d t).1 d' o' = if d' = d ∧ o' = t then false else sT σ d' o' := by
  have := itr_inv (s := ulO d t) (a := (setT σ d t false, 0)) (fun q : cd_S × Nat => sT q.1 d' o' = sT (setT σ d t false) d' o') rfl (fun b j hb => (ulO_T d t b j d' o').trans hb) 12
  exact this
theorem ulF_F (d t o : Nat) (p : cd_S × Nat) (f d' o' f' : Nat) : sF (ulF d t o p f).1 d' o' f' = sF p.1 d' o' f' ∨ sF (ulF d t o p f).1 d' o' f' = zF := by
  unfold ulF
  split
  · simp only
    rw [sF_setF]
    split
    · exact Or.inr rfl
    · exact Or.inl rfl
  · exact Or.inl rfl
theorem ulO_F (d t : Nat) (p : cd_S × Nat) (o d' o' f' : Nat) : sF (ulO d t p o).1 d' o' f' = sF p.1 d' o' f' ∨ sF (ulO d t p o).1 d' o' f' = zF := by
  unfold ulO
  split
  · exact itr_inv (s := ulF d t o) (fun q : cd_S × Nat => sF q.1 d' o' f' = sF p.1 d' o' f' ∨ sF q.1 d' o' f' = zF) (Or.inl rfl) (fun b j hb => by
      rcases ulF_F d t o b j d' o' f' with q | q
      · rw [q]; exact hb
      · exact Or.inr q) 3
  · exact Or.inl rfl
theorem remO_F (σ : cd_S) (d t d' o' f' : Nat) : sF (remO σ d t).1 d' o' f' = sF σ d' o' f' ∨ sF (remO σ d t).1 d' o' f' = zF :=
  itr_inv (s := ulO d t) (a := (setT σ d t false, 0)) (fun q : cd_S × Nat => sF q.1 d' o' f' = sF σ d' o' f' ∨ sF q.1 d' o' f' = zF) (Or.inl rfl) (fun b j hb => by
      rcases ulO_F d t b j d' o' f' with q | q
      · rw [q]; exact hb
      · exact Or.inr q) 12
theorem ulO_no (d t : Nat) (p : cd_S × Nat) (o : Nat) (hT : sT p.1 d o = true) : ∀ f, f < 3 → (sF (ulO d t p o).1 d o f).2.1 ≠ some t := by
  unfold ulO
  rw [if_pos hT]
  refine itr_invL (s := ulF d t o) (a := p) 3 (fun n (q : cd_S × Nat) => ∀ f, f < n → (sF q.1 d o f).2.1 ≠ some t) (fun f hf => absurd hf (Nat.not_lt_zero f)) (fun b j hj hb f hf => ?_) 3 (Nat.le_refl _)
  by_cases e : f = j
  · subst e
    unfold ulF
    split
    · simp only
      rw [sF_setF, if_pos ⟨rfl, rfl, rfl⟩]
      intro z; cases z
    · next hz => exact hz
  · rcases ulF_F d t o b j d o f with q | q
    · rw [q]; exact hb f (by omega)
    · rw [q]; intro z; cases z
theorem remO_no (σ : cd_S) (d t : Nat) : ∀ o f, o < 12 → f < 3 → sT (remO σ d t).1 d o = true → (sF (remO σ d t).1 d o f).2.1 ≠ some t := by
  have := itr_invL (s := ulO d t) (a := (setT σ d t false, 0)) 12 (fun n (q : cd_S × Nat) => (∀ o, sT q.1 d o = sT (setT σ d t false) d o) ∧ ∀ o f, o < n → f < 3 → sT q.1 d o = true → (sF q.1 d o f).2.1 ≠ some t) ⟨fun _ => rfl, fun o f ho => absurd ho (Nat.not_lt_zero o)⟩ (fun b j hj hb => ⟨fun o => (ulO_T d t b j d o).trans (hb.1 o), fun o f ho hf hT => ?_⟩) 12 (Nat.le_refl _)
  · exact fun o f ho hf hT => this.2 o f ho hf hT
  · rw [ulO_T] at hT
    by_cases e : o = j
    · subst e
      exact ulO_no d t b o hT f hf
    · rcases ulO_F d t b j d o f with q | q
      · rw [q]; exact hb.2 o f (by omega) hf hT
      · rw [q]; intro z; cases z
/-- the same but for there and fields -/
def eqK (σ τ : cd_S) : Prop := sDC σ τ ∧ (∀ d, sE τ d = sE σ d) ∧ (∀ d i, sS τ d i = sS σ d i) ∧ ∀ c, sK τ c = sK σ c
theorem eqK.rf {σ : cd_S} : eqK σ σ := ⟨⟨rfl, rfl⟩, fun _ => rfl, fun _ _ => rfl, fun _ => rfl⟩
theorem eqK.tr {σ τ ρ : cd_S} (h : eqK σ τ) (h' : eqK τ ρ) : eqK σ ρ := ⟨h.1.tr h'.1, fun d => (h'.2.1 d).trans (h.2.1 d), fun d i => (h'.2.2.1 d i).trans (h.2.2.1 d i), fun c => (h'.2.2.2 c).trans (h.2.2.2 c)⟩
theorem eqK.k {σ τ : cd_S} (h : eqK σ τ) (c : Nat) : kH τ c = kH σ c ∧ kT τ c = kT σ c ∧ kP τ c = kP σ c ∧ kV τ c = kV σ c ∧ kX τ c = kX σ c := by
  simp only [kH, kT, kP, kV, kX, h.2.2.2 c, and_self]
theorem setF_eqK (σ : cd_S) (d o f : Nat) (t : Int32 × Option Nat × Option Nat) : eqK σ (setF σ d o f t) := ⟨⟨rfl, rfl⟩, fun _ => rfl, fun _ _ => rfl, fun _ => rfl⟩
theorem newO_eqK (σ : cd_S) (d o : Nat) : eqK σ (newO σ d o) := ⟨newO_DC σ d o, fun _ => rfl, fun _ _ => rfl, fun _ => rfl⟩
theorem remO_eqK (σ : cd_S) (d t : Nat) : eqK σ (remO σ d t).1 := by
  refine itr_inv (s := ulO d t) (a := (setT σ d t false, 0)) (fun q : cd_S × Nat => eqK σ q.1) ⟨⟨rfl, rfl⟩, fun _ => rfl, fun _ _ => rfl, fun _ => rfl⟩ (fun b j hb => hb.tr ?_) 12
  unfold ulO
  split
  · refine itr_inv (s := ulF d t j) (fun q : cd_S × Nat => eqK b.1 q.1) eqK.rf (fun q k hq => hq.tr ?_) 3
    unfold ulF
    split
    · exact setF_eqK _ _ _ _ _
    · exact eqK.rf
  · exact eqK.rf
/-- what the reference marks as gone when an object goes -/
def gFr (σ : cd_S) (g : Nat → Bool) (z n : Nat) : Nat → Bool := fun k => if k < n ∧ kH σ k * 12 + kT σ k = z then true else g k
theorem spr_free {σ : cd_S} {g : Nat → Bool} (hI : cd_Iv σ) (hL : Rel σ g) (hw : rp_w σ) {h t c : Nat} (ht : t < 12) : Spr σ (remO (spend σ c) h t).1 g (gFr σ g (h * 12 + t) (sC σ)) := by
  have hp : ∀ c, c < sC σ → ∀ q, kP σ c = some q → q < c := fun c hc => (hw.2.2.2 c hc).2.2
  obtain ⟨s1, s2, s3, s4, s5, s6, s7, s8, s9, s10⟩ := spend_eqv σ c
  have ek := remO_eqK (spend σ c) h t
  have kk : ∀ k, kH (remO (spend σ c) h t).1 k = kH σ k ∧ kT (remO (spend σ c) h t).1 k = kT σ k ∧ kP (remO (spend σ c) h t).1 k = kP σ k ∧ kV (remO (spend σ c) h t).1 k = kV σ k ∧ kX (remO (spend σ c) h t).1 k = kX σ k := fun k => by
    obtain ⟨a1, a2, a3, a4, a5⟩ := ek.k k
    exact ⟨a1.trans (s6 k), a2.trans (s7 k), a3.trans (s8 k), a4.trans (s9 k), a5.trans (s10 k)⟩
  have eE : ∀ d, sE (remO (spend σ c) h t).1 d = sE σ d := fun d => (ek.2.1 d).trans (s2 d)
  have eT : ∀ d o, sT (remO (spend σ c) h t).1 d o = if d = h ∧ o = t then false else sT σ d o := fun d o => by rw [remO_T, s3]
  refine ⟨ek.1.2.trans s1.2, fun k => (kk k).2.2.1, fun k => (kk k).1, fun k => (kk k).2.2.2.2, hp, hL, fun k hk => ?_, fun d hd => by rw [eE]; exact hd, fun k hk => ?_, fun k hk hg => ?_, fun k hk hx hb => ?_⟩
  · simp only [gFr, hk]; split <;> rfl
  · rw [gFr, if_neg (by omega)]; exact hL.2 k hk
  · rw [gFr] at hg
    split at hg
    · next e =>
      refine Or.inr ?_
      have e2 := (ix12 (hw.2.2.2 k hk).2.1 ht).mp e.2
      rw [bsD, (kk k).1, (kk k).2.1, eT, if_pos e2]
      simp
    · exact Or.inl (rel_g hp hL hk hg)
  · obtain ⟨l1, l2, l3⟩ := hI.lv hk hx
    rw [bsD, (kk k).1, (kk k).2.1, (kk k).2.2.2.1, l1, eE, l2, eT] at hb
    split at hb
    · next e =>
      rw [gFr, if_pos ⟨hk, by rw [e.1, e.2]⟩]; rfl
    · rw [l3] at hb; cases hb
theorem Iv_free {σ : cd_S} {g : Nat → Bool} (hI : cd_Iv σ) (hL : Rel σ g) (hw : rp_w σ) {h t c : Nat} (hh : h < sD σ) (ht : t < 12) : cd_Iv (sprd (remO (spend σ c) h t).1).1 := by
  obtain ⟨s1, s2, s3, s4, s5, s6, s7, s8, s9, s10⟩ := spend_eqv σ c
  have ek := remO_eqK (spend σ c) h t
  have eE : ∀ d, sE (remO (spend σ c) h t).1 d = sE σ d := fun d => (ek.2.1 d).trans (s2 d)
  have eT : ∀ d o, sT (remO (spend σ c) h t).1 d o = if d = h ∧ o = t then false else sT σ d o := fun d o => by rw [remO_T, s3]
  have eS : ∀ d i, sS (remO (spend σ c) h t).1 d i = sS σ d i := fun d i => (ek.2.2.1 d i).trans (s5 d i)
  have eD : sD (remO (spend σ c) h t).1 = sD σ := ek.1.1.trans s1.1
  have eF : ∀ d o f, sF (remO (spend σ c) h t).1 d o f = sF σ d o f ∨ sF (remO (spend σ c) h t).1 d o f = zF := fun d o f => by rw [← s4]; exact remO_F _ _ _ _ _ _
  obtain ⟨a1, a2, a3, a4, a5⟩ := hI
  refine Iv_sprd (spr_free (c := c) ⟨a1, a2, a3, a4, a5⟩ hL hw ht) (fun d hd => ?_) (fun d o f => ?_) (fun d o f z hd ho hf hT hz => ?_) (fun d hd o ho => ?_)
  · obtain ⟨b1, b2, b3, b4⟩ := a1 d (by rw [← eD]; exact hd)
    refine ⟨by rw [eE]; exact b1, fun o => ?_, fun o f => ?_, fun i => by rw [eS]; exact b4 i⟩
    · rw [eT]; split
      · rfl
      · exact b2 o
    · rcases eF d o f with q | q
      · rw [q]; exact b3 o f
      · exact q
  · rcases eF d o f with q | q
    · rw [q]; exact a3 d o f
    · rw [q]; exact fOk_n 0
  · rw [eD] at hd
    have hno := remO_no (spend σ c) h t o f ho hf
    rcases eF d o f with q | q
    · rw [q] at hz
      rw [eT] at hT ⊢
      split at hT
      · cases hT
      · have h1 := a4 d o f z hd ho hf hT hz
        split
        · next e =>
          exfalso
          obtain ⟨rfl, rfl⟩ := e
          refine hno (by rw [eT]; split; · next e => rename_i e2; exact absurd e e2
                         · exact hT) (by rw [q]; exact hz)
        · exact h1
    · rw [q] at hz; cases hz
  · rw [eE] at hd
    rw [eT]
    split
    · rfl
    · exact a5 d hd o ho
/-! ### end -/
theorem finD_T (σ : cd_S) (d d' o' : Nat) : sT (finD σ d) d' o' = if d' = d ∧ o' < 12 then false else sT σ d' o' := by
  have h1 : sT (finD σ d) d' o' = sT (itr (fun τ o => setT τ d o false) (setE σ d true) 12) d' o' := itr_inv (s := fun τ i => setS τ d i none) (fun q => sT q d' o' = sT (itr (fun τ o => setT τ d o false) (setE σ d true) 12) d' o') rfl (fun _ _ h => h) 8
  rw [h1]
  have h2 := itr_invL (s := fun τ o => setT τ d o false) (a := setE σ d true) 12 (fun n q => sT q d' o' = if d' = d ∧ o' < n then false else sT σ d' o') (by rw [if_neg (by omega)]; rfl) (fun b j hj hb => by
    rw [sT_setT]
    by_cases e : d' = d ∧ o' = j
    · rw [if_pos e, if_pos ⟨e.1, by omega⟩]
    · rw [if_neg e, hb]
      by_cases e2 : d' = d ∧ o' < j
      · rw [if_pos e2, if_pos ⟨e2.1, by omega⟩]
      · rw [if_neg e2, if_neg (by omega)]) 12 (Nat.le_refl _)
  exact h2
theorem finD_k (σ : cd_S) (d : Nat) : (∀ d', sE (finD σ d) d' = if d' = d then true else sE σ d') ∧ (∀ d' o' f', sF (finD σ d) d' o' f' = sF σ d' o' f') ∧ ∀ c, sK (finD σ d) c = sK σ c := by
  refine itr_inv (s := fun τ i => setS τ d i none) (fun q => (∀ d', sE q d' = if d' = d then true else sE σ d') ∧ (∀ d' o' f', sF q d' o' f' = sF σ d' o' f') ∧ ∀ c, sK q c = sK σ c) ?_ (fun _ _ h => h) 8
  exact itr_inv (s := fun τ o => setT τ d o false) (a := setE σ d true) (fun q => (∀ d', sE q d' = if d' = d then true else sE σ d') ∧ (∀ d' o' f', sF q d' o' f' = sF σ d' o' f') ∧ ∀ c, sK q c = sK σ c) ⟨fun _ => rfl, fun _ _ _ => rfl, fun _ => rfl⟩ (fun _ _ h => h) 12
theorem finD_S (σ : cd_S) (d d' i : Nat) (h : d' ≠ d) : sS (finD σ d) d' i = sS σ d' i := by
  refine itr_inv (s := fun τ i => setS τ d i none) (fun q => sS q d' i = sS σ d' i) ?_ (fun b j hb => ?_) 8
  · exact itr_inv (s := fun τ o => setT τ d o false) (fun q => sS q d' i = sS σ d' i) rfl (fun _ _ h => h) 12
  · rw [sS_setS, if_neg (fun z => h z.1)]; exact hb
theorem spr_end {σ : cd_S} {g : Nat → Bool} (hI : cd_Iv σ) (hL : Rel σ g) (hw : rp_w σ) (j : Nat) : Spr σ (finD σ j) g g := by
  have hp : ∀ c, c < sC σ → ∀ q, kP σ c = some q → q < c := fun c hc => (hw.2.2.2 c hc).2.2
  obtain ⟨f1, f2, f3⟩ := finD_k σ j
  have hDC := finD_DC σ j
  have kk : ∀ k, kH (finD σ j) k = kH σ k ∧ kT (finD σ j) k = kT σ k ∧ kP (finD σ j) k = kP σ k ∧ kV (finD σ j) k = kV σ k ∧ kX (finD σ j) k = kX σ k := fun k => by simp only [kH, kT, kP, kV, kX, f3 k, and_self]
  refine ⟨hDC.2, fun k => (kk k).2.2.1, fun k => (kk k).1, fun k => (kk k).2.2.2.2, hp, hL, fun k hk => hk, fun d hd => ?_, hL.2, fun k hk hg => Or.inl (rel_g hp hL hk hg), fun k hk hx hb => ?_⟩
  · rw [f1]; split
    · rfl
    · exact hd
  · obtain ⟨l1, l2, l3⟩ := hI.lv hk hx
    rw [f1]
    split
    · rw [Bool.or_true]
    · next e =>
      rw [bsD, (kk k).1, (kk k).2.1, (kk k).2.2.2.1, l1, f1, if_neg e, l2, finD_T, if_neg (fun z => e z.1), l3] at hb
      cases hb
theorem Iv_end {σ : cd_S} {g : Nat → Bool} (hI : cd_Iv σ) (hL : Rel σ g) (hw : rp_w σ) {j : Nat} (hj : j < sD σ) : cd_Iv (sprd (finD σ j)).1 := by
  obtain ⟨f1, f2, f3⟩ := finD_k σ j
  have hDC := finD_DC σ j
  have hs := spr_end hI hL hw j
  obtain ⟨a1, a2, a3, a4, a5⟩ := hI
  refine Iv_sprd hs (fun d hd => ?_) (fun d o f => by rw [f2]; exact a3 d o f) (fun d o f z hd ho hf hT hz => ?_) (fun d hd o ho => ?_)
  · have hd' : sD σ ≤ d := hDC.1 ▸ hd
    obtain ⟨b1, b2, b3, b4⟩ := a1 d hd'
    refine ⟨by rw [f1, if_neg (by omega)]; exact b1, fun o => by rw [finD_T, if_neg (by omega)]; exact b2 o, fun o f => by rw [f2]; exact b3 o f, fun i => by rw [finD_S _ _ _ _ (by omega)]; exact b4 i⟩
  · rw [finD_T] at hT ⊢
    rw [f2] at hz
    split at hT
    · cases hT
    · next e =>
      have hd' : d < sD σ := hDC.1 ▸ hd
      have h1 := a4 d o f z hd' ho hf hT hz
      rw [if_neg (fun q => e ⟨q.1, ho⟩)]
      exact h1
  · rw [f1] at hd
    rw [finD_T]
    split
    · rfl
    · next e =>
      split at hd
      · next e2 => exact absurd ⟨e2, ho⟩ e
      · exact a5 d hd o ho
/-! ### pass -/
theorem mkA_eqK (σ : cd_S) (h : Nat) (L : List Nat) (n : Nat) : eqK σ (mkA σ h L n).1 := itr_inv (s := mk1 h L) (a := (σ, fun _ => 0)) (fun q : cd_S × (Nat → Nat) => eqK σ q.1) eqK.rf (fun q j hq => hq.tr (newO_eqK _ _ _)) n
theorem cpA_eqK (d h : Nat) (L : List Nat) (cn : Nat → Nat) (σ : cd_S) (n : Nat) : eqK σ (cpA d h L cn σ n) := itr_inv (s := cpO d h L cn) (fun q => eqK σ q) eqK.rf (fun q j hq => hq.tr (itr_inv (s := cp1 d h cn (L.getD j 0) (cn (L.getD j 0))) (fun r => eqK q r) eqK.rf (fun r k hr => hr.tr (setF_eqK _ _ _ _ _)) 3)) n
theorem mkA_Iv {σ : cd_S} (hI : cd_Iv σ) {h : Nat} (hh : h < sD σ) (he : sE σ h = false) (L : List Nat) (n : Nat) : cd_Iv (mkA σ h L n).1 := by
  have := itr_inv (s := mk1 h L) (a := (σ, fun _ => 0)) (fun q : cd_S × (Nat → Nat) => eqK σ q.1 ∧ cd_Iv q.1) ⟨eqK.rf, hI⟩ (fun q j hq => ⟨hq.1.tr (newO_eqK _ _ _), Iv_newO hq.2 (by rw [hq.1.1.1]; exact hh) (by rw [hq.1.2.1]; exact he)⟩) n
  exact this.2
theorem cpF_ok (cn : Nat → Nat) (t : Int32 × Option Nat × Option Nat) : fOk (cpF cn t) := by
  obtain ⟨v, lk, cp⟩ := t
  cases lk with
  | some z => exact fOk_l _
  | none =>
    cases cp with
    | some c => exact fOk_c c
    | none => exact fOk_n v
theorem cpF_lk {cn : Nat → Nat} {t : Int32 × Option Nat × Option Nat} {y : Nat} (h : (cpF cn t).2.1 = some y) : ∃ z, t.2.1 = some z ∧ y = cn z := by
  obtain ⟨v, lk, cp⟩ := t
  cases lk with
  | some z => exact ⟨z, rfl, (Option.some.inj h).symm⟩
  | none =>
    cases cp with
    | some c => cases h
    | none => cases h
theorem cpA_T (d h : Nat) (L : List Nat) (cn : Nat → Nat) (σ : cd_S) (n d' o' : Nat) : sT (cpA d h L cn σ n) d' o' = sT σ d' o' := itr_inv (s := cpO d h L cn) (fun q => sT q d' o' = sT σ d' o') rfl (fun q j hq => (cp1_T _ _ _ _ _ _ _ _ _).trans hq) n
theorem Iv_pass {σ : cd_S} (hI : cd_Iv σ) {d c f o : Nat} {L : List Nat} (hd : d < sD σ) (hh : kH σ c < sD σ) (he : sE σ (kH σ c) = false) (hW : WfA L) (hth : ∀ y ∈ L, sT σ d y = true) (hcl : ∀ y ∈ L, ∀ f t, f < 3 → (sF σ d y f).2.1 = some t → t ∈ L) (hcnt : cnt (sT σ (kH σ c)) 12 + L.length ≤ 12) (ho : o ∈ L) : cd_Iv (psS σ d c f o L) := by
  have mok := mkA_ok (σ := σ) (h := kH σ c) hW.1 hcnt L.length (Nat.le_refl _)
  have hI1 := mkA_Iv hI hh he L L.length
  have hK1 := mkA_eqK σ (kH σ c) L L.length
  unfold psS
  generalize hp : mkA σ (kH σ c) L L.length = p at mok hI1 hK1
  obtain ⟨τ, cn⟩ := p
  simp only at mok hI1 hK1 ⊢
  obtain ⟨m1, m2, m3, m4, m5⟩ := mok
  have hcn : ∀ z ∈ L, sT τ (kH σ c) (cn z) = true := fun z hz => by
    obtain ⟨i, hi, rfl⟩ := gD_of hz
    exact (m5 i hi).2.2
  have hfr : ∀ k, k < L.length → sT σ (kH σ c) (cn (L.getD k 0)) = false := fun k hk => (m5 k hk).2.1
  have hI2 : ∀ n, n ≤ L.length → eqK τ (cpA d (kH σ c) L cn τ n) ∧ cd_Iv (cpA d (kH σ c) L cn τ n) := by
    intro n
    induction n with
    | zero => intro _; exact ⟨eqK.rf, hI1⟩
    | succ n ih =>
      intro hn
      obtain ⟨i1, i2⟩ := ih (by omega)
      have hT2 : ∀ a b, sT (cpA d (kH σ c) L cn τ n) a b = sT τ a b := fun a b => cpA_T _ _ _ _ _ _ _ _
      have hF2 : ∀ f, sF (cpA d (kH σ c) L cn τ n) d (L.getD n 0) f = sF σ d (L.getD n 0) f := fun f => (cpA_F hfr (by omega) (hth _ (gD (show n < L.length by omega)))).trans ((m3 _ _ (hth _ (gD (show n < L.length by omega)))).2 f)
      have hne : ¬ (d = kH σ c ∧ L.getD n 0 = cn (L.getD n 0)) := fun z => by
        have h1 := hth _ (gD (show n < L.length by omega))
        rw [z.1, z.2, hfr n (by omega)] at h1
        cases h1
      have e0 : cpA d (kH σ c) L cn τ (n + 1) = cpO d (kH σ c) L cn (cpA d (kH σ c) L cn τ n) n := rfl
      rw [e0]
      generalize cpA d (kH σ c) L cn τ n = ρ at i1 i2 hT2 hF2
      have := itr_invL (s := cp1 d (kH σ c) cn (L.getD n 0) (cn (L.getD n 0))) (a := ρ) 3 (fun _ q => eqK τ q ∧ cd_Iv q ∧ (∀ a b, sT q a b = sT τ a b) ∧ ∀ f, sF q d (L.getD n 0) f = sF σ d (L.getD n 0) f) ⟨i1, i2, hT2, hF2⟩ (fun q k hk ⟨q1, q2, q3, q4⟩ => by
        refine ⟨q1.tr (setF_eqK _ _ _ _ _), Iv_setF q2 (by rw [q1.1.1, hK1.1.1]; exact hh) (cpF_ok _ _) (fun z hz => ?_), q3, fun f => ?_⟩
        · rw [q4] at hz
          obtain ⟨y, hy, rfl⟩ := cpF_lk hz
          rw [q3]
          exact hcn y (hcl _ (gD (show n < L.length by omega)) k y hk hy)
        · rw [cp1, sF_setF, if_neg (fun z => hne ⟨z.1, z.2.1⟩)]
          exact q4 f) 3 (Nat.le_refl _)
      exact ⟨this.1, this.2.1⟩
  obtain ⟨i1, i2⟩ := hI2 L.length (Nat.le_refl _)
  refine (Iv_setF i2 (by rw [i1.1.1, hK1.1.1]; exact hh) (fOk_l _) (fun z hz => ?_)).eqv (spend_eqv _ _)
  cases hz
  rw [cpA_T]
  exact hcn o ho
theorem psS_rel {σ : cd_S} {g : Nat → Bool} (hL : Rel σ g) (d c f o : Nat) (L : List Nat) : Rel (psS σ d c f o L) g := by
  unfold psS
  refine (spend_eqv _ _).rel ?_
  have hK := (mkA_eqK σ (kH σ c) L L.length).tr ((cpA_eqK d (kH σ c) L (mkA σ (kH σ c) L L.length).2 (mkA σ (kH σ c) L L.length).1 L.length).tr (setF_eqK _ (kH σ c) (kT σ c) f (0, some ((mkA σ (kH σ c) L L.length).2 o), none)))
  exact hL.cg hK.1.2 hK.2.1 (fun k => (hK.k k).1) (fun k => (hK.k k).2.2.1) (fun k => (hK.k k).2.2.2.2)
