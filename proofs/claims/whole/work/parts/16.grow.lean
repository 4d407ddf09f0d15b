/-! ===== frames keep the state; what is made new ===== -/
theorem rep_kp {w w' : cd_Wd} {x : Nat} {A : cd_A} {σ : cd_S} {P : Nat → Prop} (h : cd_Rep w x A σ) (hF : cd_Fr w w' P) (hP : ∀ a, cd_ow x A σ a → ¬ P a) {k d o f : Nat} (hv : cd_va σ k d o f) :
    cd_kd w' (A k d o f) = cd_kd w (A k d o f) ∧ cd_ln w' (A k d o f) = cd_ln w (A k d o f) ∧ (∀ t j, cd_I w' t (A k d o f) j = cd_I w t (A k d o f) j) ∧ ∀ t j, cd_O w' t (A k d o f) j = cd_O w t (A k d o f) j := by
  have he := rep_ex h hv
  have hn := hP _ (ow_at hv)
  exact ⟨hF.k he, hF.l he, hF.I he hn, hF.O he hn⟩
theorem rep_fr {w w' : cd_Wd} {x : Nat} {A : cd_A} {σ : cd_S} {P : Nat → Prop} (h : cd_Rep w x A σ) (hF : cd_Fr w w' P) (hP : ∀ a, cd_ow x A σ a → ¬ P a) : cd_Rep w' x A σ := by
  have hx : cd_kd w x ≠ 0 := by rw [h.top.1]; decide
  have hnx := hP x (Or.inl rfl)
  have K := fun {k d o f : Nat} (hv : cd_va σ k d o f) => rep_kp h hF hP hv
  have xk := hF.k hx
  have xI := hF.I hx hnx
  have xO := hF.O hx hnx
  obtain ⟨a0k, a0l, a0I, a0O⟩ := K (k := 0) (d := 0) (o := 0) (f := 0) ⟨rfl, rfl, rfl⟩
  obtain ⟨a7k, a7l, a7I, a7O⟩ := K (k := 7) (d := 0) (o := 0) (f := 0) ⟨rfl, rfl, rfl⟩
  obtain ⟨a9k, a9l, a9I, a9O⟩ := K (k := 9) (d := 0) (o := 0) (f := 0) ⟨rfl, rfl, rfl⟩
  obtain ⟨a10k, a10l, a10I, a10O⟩ := K (k := 10) (d := 0) (o := 0) (f := 0) ⟨rfl, rfl, rfl⟩
  obtain ⟨a11k, a11l, a11I, a11O⟩ := K (k := 11) (d := 0) (o := 0) (f := 0) ⟨rfl, rfl, rfl⟩
  obtain ⟨a12k, a12l, a12I, a12O⟩ := K (k := 12) (d := 0) (o := 0) (f := 0) ⟨rfl, rfl, rfl⟩
  refine ⟨?_, fun d hd => ?_, fun d o hd ho => ?_, fun d o f hd ho hf => ?_, fun d i hd hi => ?_, fun c hc => ?_, h.i, h.wf⟩
  · have ht := h.top
    simpa only [rp_x, xk, xI, xO, a0k, a0l, a7k, a7l, a9k, a9O, a10k, a10l, a11k, a11l, a12k, a12l] using ht
  · obtain ⟨b1, b2, b3, b4⟩ := K (k := 1) (d := d) (o := 0) (f := 0) ⟨hd, rfl, rfl⟩
    obtain ⟨c1, c2, c3, c4⟩ := K (k := 2) (d := d) (o := 0) (f := 0) ⟨hd, rfl, rfl⟩
    obtain ⟨e1, e2, e3, e4⟩ := K (k := 3) (d := d) (o := 0) (f := 0) ⟨hd, rfl, rfl⟩
    simpa only [a0O, b1, b3, b4, c1, c2, e1, e2] using h.d hd
  · obtain ⟨b1, b2, b3, b4⟩ := K (k := 2) (d := d) (o := 0) (f := 0) ⟨hd, rfl, rfl⟩
    obtain ⟨c1, c2, c3, c4⟩ := K (k := 4) (d := d) (o := o) (f := 0) ⟨hd, ho, rfl⟩
    obtain ⟨e1, e2, e3, e4⟩ := K (k := 5) (d := d) (o := o) (f := 0) ⟨hd, ho, rfl⟩
    simpa only [b4, c1, c3, c4, e1, e2] using h.o hd ho
  · obtain ⟨b1, b2, b3, b4⟩ := K (k := 5) (d := d) (o := o) (f := 0) ⟨hd, ho, rfl⟩
    obtain ⟨c1, c2, c3, c4⟩ := K (k := 6) (d := d) (o := o) (f := f) ⟨hd, ho, hf⟩
    simpa only [b4, c1, c3, c4] using h.f hd ho hf
  · obtain ⟨b1, b2, b3, b4⟩ := K (k := 3) (d := d) (o := 0) (f := 0) ⟨hd, rfl, rfl⟩
    simpa only [b4] using h.s hd hi
  · obtain ⟨b1, b2, b3, b4⟩ := K (k := 8) (d := c) (o := 0) (f := 0) ⟨hc, rfl, rfl⟩
    simpa only [a7O, b1, b3, b4] using h.c hc
/-- the state, one domain more -/
def addD (σ : cd_S) : cd_S := (sD σ + 1, σ.2)
theorem sE_aD (σ : cd_S) (d : Nat) : sE (addD σ) d = sE σ d := rfl
theorem sT_aD (σ : cd_S) (d o : Nat) : sT (addD σ) d o = sT σ d o := rfl
theorem sF_aD (σ : cd_S) (d o f : Nat) : sF (addD σ) d o f = sF σ d o f := rfl
theorem sS_aD (σ : cd_S) (d i : Nat) : sS (addD σ) d i = sS σ d i := rfl
theorem kH_aD (σ : cd_S) (c : Nat) : kH (addD σ) c = kH σ c := rfl
theorem kT_aD (σ : cd_S) (c : Nat) : kT (addD σ) c = kT σ c := rfl
theorem kP_aD (σ : cd_S) (c : Nat) : kP (addD σ) c = kP σ c := rfl
theorem kR_aD (σ : cd_S) (c : Nat) : kR (addD σ) c = kR σ c := rfl
theorem kU_aD (σ : cd_S) (c : Nat) : kU (addD σ) c = kU σ c := rfl
theorem kV_aD (σ : cd_S) (c : Nat) : kV (addD σ) c = kV σ c := rfl
theorem kX_aD (σ : cd_S) (c : Nat) : kX (addD σ) c = kX σ c := rfl
/-- what is not yet made is as new -/
def dfl (σ : cd_S) : Prop := ∀ d, sD σ ≤ d → sE σ d = false ∧ (∀ o, sT σ d o = false) ∧ (∀ o f, sF σ d o f = zF) ∧ ∀ i, sS σ d i = none
def nA (A : cd_A) (D q b s : Nat) (ob fa : Nat → Nat) (fi : Nat → Nat → Nat) : cd_A := fun k d o f => if d = D ∧ 1 ≤ k ∧ k ≤ 6 then (match k with
  | 1 => q
  | 2 => b
  | 3 => s
  | 4 => ob o
  | 5 => fa o
  | _ => fi o f) else A k d o f
theorem nA_o {A : cd_A} {D q b s : Nat} {ob fa : Nat → Nat} {fi : Nat → Nat → Nat} {k d o f : Nat} (h : ¬ (d = D ∧ 1 ≤ k ∧ k ≤ 6)) : nA A D q b s ob fa fi k d o f = A k d o f := if_neg h
set_option maxHeartbeats 2000000 in
theorem rep_newD {w v : cd_Wd} {x q b s : Nat} {A : cd_A} {σ : cd_S} {ob fa : Nat → Nat} {fi : Nat → Nat → Nat} {L : Nat → Nat × Nat × Nat} (hR : cd_Rep w x A σ) (hq : cd_kd w q = 0) (hN : doP (cd_wN w q 4 0) v q b ob fa fi L 12) (hs : cd_kd v s = 0) (h6 : sD σ < 6) (hz : dfl σ) :
    cd_Rep (cd_wI (cd_wO (cd_wO (cd_wN v s 13 8) 34 q 0 (some s)) 1003 (A 0 0 0 0) (sD σ) (some q)) 1 x 0 (nI (sD σ + 1))) x (nA A (sD σ) q b s ob fa fi) (addD σ) ∧ cd_Fr w (cd_wI (cd_wO (cd_wO (cd_wN v s 13 8) 34 q 0 (some s)) 1003 (A 0 0 0 0) (sD σ) (some q)) 1 x 0 (nI (sD σ + 1))) (cd_ow x A σ) ∧
    ∀ a, cd_ow x (nA A (sD σ) q b s ob fa fi) (addD σ) a → cd_ow x A σ a ∨ cd_kd w a = 0 := by
  obtain ⟨n0, n1, n2, n3, n4, n5, n6, n7⟩ := hN
  have hvq : cd_kd v q = 4 := by rw [n0.k (by rw [kd_wN, if_pos rfl]; decide), kd_wN, if_pos rfl]
  have hqs : ¬ q = s := fun e => by rw [e, hs] at hvq; cases hvq
  have hbs : ¬ b = s := fun e => by rw [e, hs] at n4; cases n4
  have fr1 : ∀ y, cd_kd (cd_wN w q 4 0) y = 0 → cd_kd w y = 0 ∧ ¬ y = q := fun y hy => by
    rw [kd_wN] at hy
    split at hy
    · cases hy
    · next e => exact ⟨hy, e⟩
  have hws : cd_kd w s = 0 := (fr1 s (n0.new hs)).1
  obtain ⟨hwb, hbq⟩ := fr1 b n1
  have hF2 : cd_Fr w (cd_wO (cd_wN v s 13 8) 34 q 0 (some s)) (fun _ => False) := by
    have h1 : cd_Fr w (cd_wO (cd_wN v s 13 8) 34 q 0 (some s)) (fun y => cd_kd w y = 0) := ((cd_Fr.wN hq).tr (n0.up fun y hy hz => ?_)).tr ((cd_Fr.wN hs).tr (cd_Fr.wO hq))
    · exact h1.drop fun y hy => Or.inr hy
    · rcases hz with rfl | hz
      · exact hq
      · exact absurd hz hy
  have hR2 : cd_Rep (cd_wO (cd_wN v s 13 8) 34 q 0 (some s)) x A σ := rep_fr hR hF2 fun _ _ => id
  have ho : ∀ a, cd_ow x A σ a → cd_kd w a ≠ 0 := fun a ha => by
    rcases ha with rfl | ⟨k, d, o, f, hv, rfl⟩
    · rw [hR.top.1]; decide
    · exact rep_ex hR hv
  have hx0 : ¬ x = q := fun e => ho x (Or.inl rfl) (e ▸ hq)
  have hA0q : ¬ A 0 0 0 0 = q := fun e => ho _ (ow_at (k := 0) ⟨rfl, rfl, rfl⟩) (e ▸ hq)
  have nn : ∀ k o f, cd_va (addD σ) k (sD σ) o f → 1 ≤ k → k ≤ 6 → cd_kd w (nA A (sD σ) q b s ob fa fi k (sD σ) o f) = 0 ∧ (fun y => if y = q then (1, 0, 0) else if y = s then (3, 0, 0) else L y) (nA A (sD σ) q b s ob fa fi k (sD σ) o f) = (k, o, f) := by
    intro k o f hv h1 h2
    match k, hv, h1, h2 with
    | 1, hv, _, _ => obtain ⟨-, rfl, rfl⟩ := hv; exact ⟨by simpa [nA] using hq, by simp [nA]⟩
    | 2, hv, _, _ => obtain ⟨-, rfl, rfl⟩ := hv; exact ⟨by simpa [nA] using hwb, by simp [nA, hbq, hbs, n6]⟩
    | 3, hv, _, _ => obtain ⟨-, rfl, rfl⟩ := hv; exact ⟨by simpa [nA] using hws, by simp [nA, Ne.symm hqs]⟩
    | 4, hv, _, _ =>
      obtain ⟨-, ho, rfl⟩ := hv
      obtain ⟨g1, g2, g3, g4, g5, g6, g7, g8, g9, g10, g11⟩ := n7 o ho
      obtain ⟨e1, e2⟩ := fr1 _ g7
      have e3 : ¬ ob o = s := fun e => by rw [e, hs] at g2; cases g2
      exact ⟨by simpa [nA] using e1, by simp [nA, e2, e3, g9]⟩
    | 5, hv, _, _ =>
      obtain ⟨-, ho, rfl⟩ := hv
      obtain ⟨g1, g2, g3, g4, g5, g6, g7, g8, g9, g10, g11⟩ := n7 o ho
      obtain ⟨e1, e2⟩ := fr1 _ g8
      have e3 : ¬ fa o = s := fun e => by rw [e, hs] at g5; cases g5
      exact ⟨by simpa [nA] using e1, by simp [nA, e2, e3, g10]⟩
    | 6, hv, _, _ =>
      obtain ⟨-, ho, hf⟩ := hv
      obtain ⟨g1, g2, g3, g4, g5, g6, g7⟩ := (n7 o ho).2.2.2.2.2.2.2.2.2.2 f hf
      obtain ⟨e1, e2⟩ := fr1 _ g6
      have e3 : ¬ fi o f = s := fun e => by rw [e, hs] at g2; cases g2
      exact ⟨by simpa [nA] using e1, by simp [nA, e2, e3, g7]⟩
    | k + 7, _, _, h2 => omega
  have oo : ∀ k d o f, cd_va (addD σ) k d o f → ¬ (d = sD σ ∧ 1 ≤ k ∧ k ≤ 6) → cd_va σ k d o f := by
    intro k d o f hv hn
    match k, hv with
    | 0, hv => exact hv
    | 1, hv => exact ⟨by have h1 : d < sD σ + 1 := hv.1; omega, hv.2⟩
    | 2, hv => exact ⟨by have h1 : d < sD σ + 1 := hv.1; omega, hv.2⟩
    | 3, hv => exact ⟨by have h1 : d < sD σ + 1 := hv.1; omega, hv.2⟩
    | 4, hv => exact ⟨by have h1 : d < sD σ + 1 := hv.1; omega, hv.2⟩
    | 5, hv => exact ⟨by have h1 : d < sD σ + 1 := hv.1; omega, hv.2⟩
    | 6, hv => exact ⟨by have h1 : d < sD σ + 1 := hv.1; omega, hv.2⟩
    | 7, hv => exact hv
    | 8, hv => exact hv
    | 9, hv => exact hv
    | 10, hv => exact hv
    | 11, hv => exact hv
    | 12, hv => exact hv
    | k + 13, hv => exact hv.elim
  obtain ⟨t1, t2, t3, t4, t5, t6, t7, t8, t9, t10, t11, t12, t13, t14, t15, t16, t17, t18, t19, t20, t21, t22⟩ := hR2.top
  have aA : ∀ k d o f, ¬ (1 ≤ k ∧ k ≤ 6) → nA A (sD σ) q b s ob fa fi k d o f = A k d o f := fun k d o f h => nA_o fun z => h z.2
  have aD : ∀ k d o f, d < sD σ → nA A (sD σ) q b s ob fa fi k d o f = A k d o f := fun k d o f h => nA_o fun z => by omega
  refine ⟨⟨?_, fun d hd => ?_, fun d o hd ho' => ?_, fun d o f hd ho' hf => ?_, fun d i hd hi => ?_, fun c hc => ?_, ?_, ?_⟩, ?_, ?_⟩
  · unfold rp_x
    rw [aA 0 0 0 0 (by omega), aA 7 0 0 0 (by omega), aA 9 0 0 0 (by omega), aA 10 0 0 0 (by omega), aA 11 0 0 0 (by omega), aA 12 0 0 0 (by omega)]
    simp only [kd_wI, ln_wI, O_wI] at *
    refine ⟨t1, ?_, t3, t4, ?_, t6, t7, ?_, t9, ?_, t11, t12, ?_, t14, t15, ?_, t17, t18, ?_, ?_, ?_, t22⟩
    · rw [O_wO, if_neg (by simp)]; exact t2
    · rw [O_wO, if_neg (by simp)]; exact t5
    · rw [O_wO, if_neg (by simp)]; exact t8
    · rw [O_wO, if_neg (by simp)]; exact t10
    · rw [O_wO, if_neg (by simp)]; exact t13
    · rw [O_wO, if_neg (by simp)]; exact t16
    · rw [I_wI, if_pos ⟨rfl, rfl, rfl⟩]; rfl
    · exact h6
    · rw [I_wI, if_neg (by simp), I_wO]; exact t21
  · by_cases e : d = sD σ
    · subst e
      rw [aA 0 0 0 0 (by omega)]
      obtain ⟨z1, -⟩ := hz (sD σ) (Nat.le_refl _)
      have z1' : sE (addD σ) (sD σ) = false := z1
      rw [z1']
      have i32 : cd_I (cd_wN w q 4 0) 32 q 0 = 0 := by rw [I_wN, if_pos rfl]
      rw [i32] at n2
      simp [nA, kd_wI, kd_wO, kd_wN, ln_wI, ln_wO, ln_wN, O_wI, O_wO, O_wN, I_wI, I_wO, I_wN, hqs, hbs, hvq, n2, n3, n4, n5, cd_b]
    · have hd' : d < sD σ := by have h1 : d < sD σ + 1 := hd; omega
      rw [aA 0 0 0 0 (by omega), aD 1 d 0 0 hd', aD 2 d 0 0 hd', aD 3 d 0 0 hd']
      have q1 := hR2.d hd'
      simpa [sE_aD, sT_aD, sF_aD, sS_aD, kH_aD, kT_aD, kP_aD, kR_aD, kU_aD, kV_aD, kX_aD, kd_wI, ln_wI, O_wI, I_wI, kd_wO (cd_wO _ _ _ _ _), ln_wO (cd_wO _ _ _ _ _), O_wO (cd_wO _ _ _ _ _), I_wO (cd_wO _ _ _ _ _), e] using q1
  · by_cases e : d = sD σ
    · subst e
      obtain ⟨g1, g2, g3, g4, g5, g6, g7, g8, g9, g10, g11⟩ := n7 o ho'
      have e3 : ¬ ob o = s := fun e => by rw [e, hs] at g2; cases g2
      have e4 : ¬ fa o = s := fun e => by rw [e, hs] at g5; cases g5
      obtain ⟨-, z2, -⟩ := hz (sD σ) (Nat.le_refl _)
      have z2' : sT (addD σ) (sD σ) o = false := z2 o
      rw [z2']
      simp [nA, kd_wI, kd_wO, kd_wN, ln_wI, ln_wO, ln_wN, O_wI, O_wO, O_wN, I_wI, I_wO, I_wN, hbs, e3, e4, g1, g2, g3, g4, g5, g6, cd_b]
    · have hd' : d < sD σ := by have h1 : d < sD σ + 1 := hd; omega
      rw [aD 2 d 0 0 hd', aD 4 d o 0 hd', aD 5 d o 0 hd']
      have q1 := hR2.o hd' ho'
      simpa [sE_aD, sT_aD, sF_aD, sS_aD, kH_aD, kT_aD, kP_aD, kR_aD, kU_aD, kV_aD, kX_aD, kd_wI, ln_wI, O_wI, I_wI, kd_wO (cd_wO _ _ _ _ _), ln_wO (cd_wO _ _ _ _ _), O_wO (cd_wO _ _ _ _ _), I_wO (cd_wO _ _ _ _ _)] using q1
  · have eA : (fun c => nA A (sD σ) q b s ob fa fi 8 c 0 0) = fun c => A 8 c 0 0 := by funext c; exact aA 8 c 0 0 (by omega)
    rw [eA]
    by_cases e : d = sD σ
    · subst e
      obtain ⟨g1, g2, g3, g4, g5, g6, g7⟩ := (n7 o ho').2.2.2.2.2.2.2.2.2.2 f hf
      have e3 : ¬ fi o f = s := fun e => by rw [e, hs] at g2; cases g2
      have e4 : ¬ fa o = s := fun e => by have g := (n7 o ho').2.2.2.2.1; rw [e, hs] at g; cases g
      obtain ⟨-, -, z3, -⟩ := hz (sD σ) (Nat.le_refl _)
      have z3' : sF (addD σ) (sD σ) o f = zF := z3 o f
      rw [z3']
      simp [nA, kd_wI, kd_wO, kd_wN, ln_wI, ln_wO, ln_wN, O_wI, O_wO, O_wN, I_wI, I_wO, I_wN, e3, e4, g1, g2, g3, g4, g5, zF, cd_l]
    · have hd' : d < sD σ := by have h1 : d < sD σ + 1 := hd; omega
      rw [aD 5 d o 0 hd', aD 6 d o f hd']
      have q1 := hR2.f hd' ho' hf
      simpa [sE_aD, sT_aD, sF_aD, sS_aD, kH_aD, kT_aD, kP_aD, kR_aD, kU_aD, kV_aD, kX_aD, kd_wI, ln_wI, O_wI, I_wI, kd_wO (cd_wO _ _ _ _ _), ln_wO (cd_wO _ _ _ _ _), O_wO (cd_wO _ _ _ _ _), I_wO (cd_wO _ _ _ _ _)] using q1
  · have eA : (fun c => nA A (sD σ) q b s ob fa fi 8 c 0 0) = fun c => A 8 c 0 0 := by funext c; exact aA 8 c 0 0 (by omega)
    rw [eA]
    by_cases e : d = sD σ
    · subst e
      obtain ⟨-, -, -, z4⟩ := hz (sD σ) (Nat.le_refl _)
      have z4' : sS (addD σ) (sD σ) i = none := z4 i
      rw [z4']
      simp [nA, O_wI, O_wO, O_wN]
    · have hd' : d < sD σ := by have h1 : d < sD σ + 1 := hd; omega
      rw [aD 3 d 0 0 hd']
      have q1 := hR2.s hd' hi
      simpa [sE_aD, sT_aD, sF_aD, sS_aD, kH_aD, kT_aD, kP_aD, kR_aD, kU_aD, kV_aD, kX_aD, O_wI, O_wO (cd_wO _ _ _ _ _)] using q1
  · have hc' : c < sC σ := hc
    have eA : (fun c => nA A (sD σ) q b s ob fa fi 8 c 0 0) = fun c => A 8 c 0 0 := by funext c; exact aA 8 c 0 0 (by omega)
    have hh := (hR.wf.2.2.2 c hc').1
    have e1 : nA A (sD σ) q b s ob fa fi 1 (kH (addD σ) c) 0 0 = A 1 (kH σ c) 0 0 := aD 1 _ 0 0 hh
    rw [eA, e1, aA 7 0 0 0 (by omega), aA 8 c 0 0 (by omega)]
    have q1 := hR2.c hc'
    simpa [sE_aD, sT_aD, sF_aD, sS_aD, kH_aD, kT_aD, kP_aD, kR_aD, kU_aD, kV_aD, kX_aD, kd_wI, ln_wI, O_wI, I_wI, kd_wO (cd_wO _ _ _ _ _), ln_wO (cd_wO _ _ _ _ _), O_wO (cd_wO _ _ _ _ _), I_wO (cd_wO _ _ _ _ _)] using q1
  · intro k d o f k' d' o' f' hv hv' he
    by_cases e : d = sD σ ∧ 1 ≤ k ∧ k ≤ 6
    · obtain ⟨rfl, u1, u2⟩ := e
      obtain ⟨m1, m2⟩ := nn k o f hv u1 u2
      by_cases e' : d' = sD σ ∧ 1 ≤ k' ∧ k' ≤ 6
      · obtain ⟨rfl, u3, u4⟩ := e'
        obtain ⟨m3, m4⟩ := nn k' o' f' hv' u3 u4
        rw [he, m4] at m2
        simp only [Prod.mk.injEq] at m2
        exact ⟨m2.1.symm, rfl, m2.2.1.symm, m2.2.2.symm⟩
      · rw [he, nA_o e'] at m1
        exact absurd m1 (rep_ex hR (oo _ _ _ _ hv' e'))
    · by_cases e' : d' = sD σ ∧ 1 ≤ k' ∧ k' ≤ 6
      · obtain ⟨rfl, u3, u4⟩ := e'
        obtain ⟨m3, m4⟩ := nn k' o' f' hv' u3 u4
        rw [← he, nA_o e] at m3
        exact absurd m3 (rep_ex hR (oo _ _ _ _ hv e))
      · rw [nA_o e, nA_o e'] at he
        exact hR.i k d o f k' d' o' f' (oo _ _ _ _ hv e) (oo _ _ _ _ hv' e') he
  · obtain ⟨g1, g2, g3, g4⟩ := hR.wf
    refine ⟨fun d i c hd hi hc => ?_, fun d o f c hd ho hf hc => ?_, fun d o f t hd ho hf ht => ?_, fun c hc => ?_⟩
    · by_cases e : d = sD σ
      · subst e
        have z : sS (addD σ) (sD σ) i = none := (hz (sD σ) (Nat.le_refl _)).2.2.2 i
        rw [z] at hc; cases hc
      · exact g1 d i c (by have h1 : d < sD σ + 1 := hd; omega) hi hc
    · by_cases e : d = sD σ
      · subst e
        have z : sF (addD σ) (sD σ) o f = zF := (hz (sD σ) (Nat.le_refl _)).2.2.1 o f
        rw [z] at hc; cases hc
      · exact g2 d o f c (by have h1 : d < sD σ + 1 := hd; omega) ho hf hc
    · by_cases e : d = sD σ
      · subst e
        have z : sF (addD σ) (sD σ) o f = zF := (hz (sD σ) (Nat.le_refl _)).2.2.1 o f
        rw [z] at ht; cases ht
      · exact g3 d o f t (by have h1 : d < sD σ + 1 := hd; omega) ho hf ht
    · obtain ⟨y1, y2, y3⟩ := g4 c hc
      exact ⟨Nat.lt_succ_of_lt y1, y2, y3⟩
  · exact ((hF2.up fun _ _ z => z.elim).tr (cd_Fr.wO (ow_at (k := 0) ⟨rfl, rfl, rfl⟩))).tr (cd_Fr.wI (Or.inl rfl))
  · rintro a (rfl | ⟨k, d, o, f, hv, rfl⟩)
    · exact Or.inl (Or.inl rfl)
    · by_cases e : d = sD σ ∧ 1 ≤ k ∧ k ≤ 6
      · obtain ⟨rfl, u1, u2⟩ := e
        exact Or.inr (nn k o f hv u1 u2).1
      · rw [nA_o e]
        exact Or.inl (ow_at (oo _ _ _ _ hv e))

/-- the state, one capability more -/
def addK (σ : cd_S) (t : Nat × Nat × Option Nat × Int32 × Int32 × Bool × Bool) : cd_S := (sD σ, sC σ + 1, σ.2.2.1, σ.2.2.2.1, σ.2.2.2.2.1, σ.2.2.2.2.2.1, fun c => if c = sC σ then t else sK σ c)
theorem sK_aK (σ : cd_S) (t : Nat × Nat × Option Nat × Int32 × Int32 × Bool × Bool) (c : Nat) : sK (addK σ t) c = if c = sC σ then t else sK σ c := rfl
def kA (A : cd_A) (D q : Nat) : cd_A := fun k d o f => if k = 8 ∧ d = D then q else A k d o f
theorem kA_n {A : cd_A} {D q k d o f : Nat} (h : ¬ (k = 8 ∧ d = D)) : kA A D q k d o f = A k d o f := if_neg h
theorem kA_8 {A : cd_A} {D q o f : Nat} : kA A D q 8 D o f = q := if_pos ⟨rfl, rfl⟩
set_option maxHeartbeats 2000000 in
theorem rep_newC {w : cd_Wd} {x q : Nat} {A : cd_A} {σ : cd_S} {hm tg : Nat} {pa : Option Nat} {r u : Int32} (hR : cd_Rep w x A σ) (hq : ¬ cd_ow x A σ q) (h1 : cd_kd w q = 10) (h2 : cd_O w 128 q 0 = some (A 1 hm 0 0)) (h3 : cd_I w 129 q 0 = nI tg) (h4 : cd_O w 130 q 0 = pa.map (fun c => A 8 c 0 0)) (h5 : cd_I w 131 q 0 = r) (h6 : cd_I w 132 q 0 = u) (h7 : cd_I w 133 q 0 = 0) (h8 : cd_I w 134 q 0 = 0)
    (hh : hm < sD σ) (ht : tg < 12) (hp : ∀ p, pa = some p → p < sC σ) (h40 : sC σ < 40) : cd_Rep (cd_wI (cd_wO w 1006 (A 7 0 0 0) (sC σ) (some q)) 3 x 0 (nI (sC σ + 1))) x (kA A (sC σ) q) (addK σ (hm, tg, pa, r, u, false, false)) := by
  obtain ⟨t1, t2, t3, t4, t5, t6, t7, t8, t9, t10, t11, t12, t13, t14, t15, t16, t17, t18, t19, t20, t21, t22⟩ := hR.top
  have aA : ∀ k d o f, ¬ k = 8 → kA A (sC σ) q k d o f = A k d o f := fun k d o f h => kA_n fun z => h z.1
  have aC : ∀ c o f, c < sC σ → kA A (sC σ) q 8 c o f = A 8 c o f := fun c o f h => kA_n fun z => by omega
  have mp : ∀ z : Option Nat, (∀ c, z = some c → c < sC σ) → z.map (fun c => kA A (sC σ) q 8 c 0 0) = z.map (fun c => A 8 c 0 0) := by
    intro z hz
    cases z with
    | none => rfl
    | some c => simp only [Option.map_some]; rw [aC c 0 0 (hz c rfl)]
  have oo : ∀ k d o f, cd_va (addK σ (hm, tg, pa, r, u, false, false)) k d o f → ¬ (k = 8 ∧ d = sC σ) → cd_va σ k d o f := by
    intro k d o f hv hn
    match k, hv with
    | 0, hv => exact hv
    | 1, hv => exact hv
    | 2, hv => exact hv
    | 3, hv => exact hv
    | 4, hv => exact hv
    | 5, hv => exact hv
    | 6, hv => exact hv
    | 7, hv => exact hv
    | 8, hv => exact ⟨by have h1 : d < sC σ + 1 := hv.1; omega, hv.2⟩
    | 9, hv => exact hv
    | 10, hv => exact hv
    | 11, hv => exact hv
    | 12, hv => exact hv
    | k + 13, hv => exact hv.elim
  refine ⟨?_, fun d hd => ?_, fun d o hd ho => ?_, fun d o f hd ho hf => ?_, fun d i hd hi => ?_, fun c hc => ?_, ?_, ?_⟩
  · unfold rp_x
    rw [aA 0 0 0 0 (by omega), aA 7 0 0 0 (by omega), aA 9 0 0 0 (by omega), aA 10 0 0 0 (by omega), aA 11 0 0 0 (by omega), aA 12 0 0 0 (by omega)]
    simp only [kd_wI, ln_wI, O_wI, kd_wO, ln_wO] at *
    refine ⟨t1, ?_, t3, t4, ?_, t6, t7, ?_, t9, ?_, t11, t12, ?_, t14, t15, ?_, t17, t18, ?_, t20, ?_, ?_⟩
    · rw [O_wO, if_neg (by simp)]; exact t2
    · rw [O_wO, if_neg (by simp)]; exact t5
    · rw [O_wO, if_neg (by simp)]; exact t8
    · rw [O_wO, if_neg (by simp)]; exact t10
    · rw [O_wO, if_neg (by simp)]; exact t13
    · rw [O_wO, if_neg (by simp)]; exact t16
    · rw [I_wI, if_neg (by simp), I_wO]; exact t19
    · rw [I_wI, if_pos ⟨rfl, rfl, rfl⟩]; rfl
    · exact h40
  · have hd' : d < sD σ := hd
    rw [aA 0 0 0 0 (by omega), aA 1 d 0 0 (by omega), aA 2 d 0 0 (by omega), aA 3 d 0 0 (by omega)]
    have q1 := hR.d hd'
    have e : sE (addK σ (hm, tg, pa, r, u, false, false)) d = sE σ d := rfl
    simpa [e, kd_wI, ln_wI, O_wI, I_wI, kd_wO, ln_wO, O_wO, I_wO] using q1
  · have hd' : d < sD σ := hd
    rw [aA 2 d 0 0 (by omega), aA 4 d o 0 (by omega), aA 5 d o 0 (by omega)]
    have q1 := hR.o hd' ho
    have e : sT (addK σ (hm, tg, pa, r, u, false, false)) d o = sT σ d o := rfl
    simpa [e, kd_wI, ln_wI, O_wI, I_wI, kd_wO, ln_wO, O_wO, I_wO] using q1
  · have hd' : d < sD σ := hd
    have e : sF (addK σ (hm, tg, pa, r, u, false, false)) d o f = sF σ d o f := rfl
    rw [aA 5 d o 0 (by omega), aA 6 d o f (by omega), e, mp _ fun c hc => hR.wf.2.1 d o f c hd' ho hf hc]
    have q1 := hR.f hd' ho hf
    simpa [kd_wI, ln_wI, O_wI, I_wI, kd_wO, ln_wO, O_wO, I_wO] using q1
  · have hd' : d < sD σ := hd
    have e : sS (addK σ (hm, tg, pa, r, u, false, false)) d i = sS σ d i := rfl
    rw [aA 3 d 0 0 (by omega), e, mp _ fun c hc => hR.wf.1 d i c hd' hi hc]
    have q1 := hR.s hd' hi
    have hne : ¬ A 3 d 0 0 = A 7 0 0 0 := fun z => by have := (hR.i 3 d 0 0 7 0 0 0 ⟨hd', rfl, rfl⟩ ⟨rfl, rfl, rfl⟩ z).1; omega
    simpa [O_wI, O_wO, hne] using q1
  · rw [aA 7 0 0 0 (by omega), aA 1 _ 0 0 (by omega)]
    by_cases e : c = sC σ
    · subst e
      simp only [kH, kT, kP, kR, kU, kV, kX, sK_aK, if_true, kA_8]
      rw [mp pa hp]
      simp [O_wI, O_wO, kd_wI, kd_wO, I_wI, I_wO, h1, h2, h3, h4, h5, h6, h7, h8, cd_b]
    · have hc' : c < sC σ := by have h1 : c < sC σ + 1 := hc; omega
      have q1 := hR.c hc'
      have w4 := hR.wf.2.2.2 c hc'
      rw [aC c 0 0 hc']
      have e0 : sK (addK σ (hm, tg, pa, r, u, false, false)) c = sK σ c := by rw [sK_aK, if_neg e]
      have ep : kP (addK σ (hm, tg, pa, r, u, false, false)) c = kP σ c := by rw [kP, e0]; rfl
      rw [ep, mp _ fun p hp => Nat.lt_trans (w4.2.2 p hp) hc']
      simp only [kH, kT, kP, kR, kU, kV, kX, e0] at q1 ⊢
      simpa [O_wI, O_wO, kd_wI, kd_wO, I_wI, I_wO, e] using q1
  · intro k d o f k' d' o' f' hv hv' he
    by_cases e : k = 8 ∧ d = sC σ
    · obtain ⟨rfl, rfl⟩ := e
      obtain ⟨-, rfl, rfl⟩ := hv
      rw [kA_8] at he
      by_cases e' : k' = 8 ∧ d' = sC σ
      · obtain ⟨rfl, rfl⟩ := e'
        obtain ⟨-, rfl, rfl⟩ := hv'
        exact ⟨rfl, rfl, rfl, rfl⟩
      · rw [kA_n e'] at he
        exact absurd (he ▸ ow_at (oo _ _ _ _ hv' e')) hq
    · rw [kA_n e] at he
      by_cases e' : k' = 8 ∧ d' = sC σ
      · obtain ⟨rfl, rfl⟩ := e'
        rw [kA_8] at he
        exact absurd (he ▸ ow_at (oo _ _ _ _ hv e)) hq
      · rw [kA_n e'] at he
        exact hR.i k d o f k' d' o' f' (oo _ _ _ _ hv e) (oo _ _ _ _ hv' e') he
  · obtain ⟨g1, g2, g3, g4⟩ := hR.wf
    refine ⟨fun d i c hd hi hc => Nat.lt_succ_of_lt (g1 d i c hd hi hc), fun d o f c hd ho hf hc => Nat.lt_succ_of_lt (g2 d o f c hd ho hf hc), g3, fun c hc => ?_⟩
    by_cases e : c = sC σ
    · subst e
      simp only [kH, kT, kP, sK_aK, if_true]
      exact ⟨hh, ht, hp⟩
    · have e0 : sK (addK σ (hm, tg, pa, r, u, false, false)) c = sK σ c := by rw [sK_aK, if_neg e]
      have q1 := g4 c (by have h1 : c < sC σ + 1 := hc; omega)
      simp only [kH, kT, kP, e0] at q1 ⊢
      exact q1
