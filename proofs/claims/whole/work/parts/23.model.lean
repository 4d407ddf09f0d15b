/-! ===== THE REFERENCE: its arrays hold the same state =====
B k the array of its field k (3 ended, 4 there, 5 sort, 6 value, 7 slot, 8 target, 9 rights, 10 uses, 11 parent, 12 gone, 13 found, 14 copyOf, 15 under, 16 next) -/
def mk_l (k : Nat) : Nat := match k with
  | 3 => 6
  | 4 => 72
  | 5 => 216
  | 6 => 216
  | 7 => 48
  | 8 => 40
  | 9 => 40
  | 10 => 40
  | 11 => 40
  | 12 => 40
  | _ => 12
def mk_k (k : Nat) : Nat := match k with
  | 3 => 3
  | 4 => 3
  | 12 => 3
  | _ => 1
def mtg (k : Nat) : Nat := match k with
  | 3 => 1001
  | 4 => 1001
  | 12 => 1001
  | _ => 1000
def mV (w : cd_Wd) (B : Nat → Nat) (k j : Nat) : Int32 := cd_I w (mtg k) (B k) j
def fS (t : Int32 × Option Nat × Option Nat) : Int32 := match t with
  | (_, _, some _) => 2
  | (_, some _, none) => 1
  | (_, none, none) => 0
def fV (t : Int32 × Option Nat × Option Nat) : Int32 := match t with
  | (_, _, some c) => nI c
  | (_, some z, none) => nI z
  | (n, none, none) => n
def RC (V : Nat → Nat → Int32) (σ : cd_S) (g : Nat → Bool) : Prop :=
  (∀ d, d < 6 → V 3 d = cd_b (sE σ d)) ∧ (∀ d o, d < 6 → o < 12 → V 4 (d * 12 + o) = cd_b (sT σ d o)) ∧ (∀ d o f, d < 6 → o < 12 → f < 3 → V 5 ((d * 12 + o) * 3 + f) = fS (sF σ d o f) ∧ V 6 ((d * 12 + o) * 3 + f) = fV (sF σ d o f)) ∧
  (∀ d i, d < 6 → i < 8 → V 7 (d * 8 + i) = cd_l (sS σ d i)) ∧ (∀ c, c < sC σ → V 8 c = nI (kH σ c * 12 + kT σ c) ∧ V 9 c = kR σ c ∧ V 10 c = kU σ c ∧ V 11 c = cd_l (kP σ c)) ∧ ∀ c, c < 40 → V 12 c = cd_b (g c)
def shM (w : cd_Wd) (m : Nat) (B : Nat → Nat) : Prop := cd_kd w m = 14 ∧ (∀ k, 3 ≤ k → k ≤ 16 → cd_O w (192 + k) m 0 = some (B k) ∧ cd_kd w (B k) = mk_k k ∧ cd_ln w (B k) = mk_l k) ∧ ∀ k k', 3 ≤ k → k ≤ 16 → 3 ≤ k' → k' ≤ 16 → B k = B k' → k = k'
def RepM (w : cd_Wd) (m : Nat) (B : Nat → Nat) (σ : cd_S) (g : Nat → Bool) : Prop := shM w m B ∧ cd_I w 192 m 0 = nI (sD σ) ∧ cd_I w 193 m 0 = nI (sC σ) ∧ sD σ ≤ 6 ∧ sC σ ≤ 40 ∧ RC (mV w B) σ g ∧ rp_w σ
def mow (m : Nat) (B : Nat → Nat) (y : Nat) : Prop := y = m ∨ ∃ k, 3 ≤ k ∧ k ≤ 16 ∧ y = B k
def upM (V : Nat → Nat → Int32) (k j : Nat) (v : Int32) : Nat → Nat → Int32 := fun k' j' => if k' = k ∧ j' = j then v else V k' j'
section ModelR
variable {w : cd_Wd} {m : Nat} {B : Nat → Nat} {σ : cd_S} {g : Nat → Bool}
theorem RepM.km (h : RepM w m B σ g) : cd_kd w m = 14 := h.1.1
theorem RepM.a (h : RepM w m B σ g) (k : Nat) (h1 : 3 ≤ k) (h2 : k ≤ 16) : cd_O w (192 + k) m 0 = some (B k) ∧ cd_kd w (B k) = mk_k k ∧ cd_ln w (B k) = mk_l k := h.1.2.1 k h1 h2
theorem RepM.D (h : RepM w m B σ g) : cd_I w 192 m 0 = nI (sD σ) := h.2.1
theorem RepM.C (h : RepM w m B σ g) : cd_I w 193 m 0 = nI (sC σ) := h.2.2.1
theorem RepM.D6 (h : RepM w m B σ g) : sD σ ≤ 6 := h.2.2.2.1
theorem RepM.C40 (h : RepM w m B σ g) : sC σ ≤ 40 := h.2.2.2.2.1
theorem RepM.V (h : RepM w m B σ g) : RC (mV w B) σ g := h.2.2.2.2.2.1
theorem RepM.wf (h : RepM w m B σ g) : rp_w σ := h.2.2.2.2.2.2
theorem RepM.E (h : RepM w m B σ g) {d : Nat} (hd : d < 6) : cd_I w 1001 (B 3) d = cd_b (sE σ d) := h.V.1 d hd
theorem RepM.T (h : RepM w m B σ g) {d o : Nat} (hd : d < 6) (ho : o < 12) : cd_I w 1001 (B 4) (d * 12 + o) = cd_b (sT σ d o) := h.V.2.1 d o hd ho
theorem RepM.F (h : RepM w m B σ g) {d o f : Nat} (hd : d < 6) (ho : o < 12) (hf : f < 3) : cd_I w 1000 (B 5) ((d * 12 + o) * 3 + f) = fS (sF σ d o f) ∧ cd_I w 1000 (B 6) ((d * 12 + o) * 3 + f) = fV (sF σ d o f) := h.V.2.2.1 d o f hd ho hf
theorem RepM.S (h : RepM w m B σ g) {d i : Nat} (hd : d < 6) (hi : i < 8) : cd_I w 1000 (B 7) (d * 8 + i) = cd_l (sS σ d i) := h.V.2.2.2.1 d i hd hi
theorem RepM.K (h : RepM w m B σ g) {c : Nat} (hc : c < sC σ) : cd_I w 1000 (B 8) c = nI (kH σ c * 12 + kT σ c) ∧ cd_I w 1000 (B 9) c = kR σ c ∧ cd_I w 1000 (B 10) c = kU σ c ∧ cd_I w 1000 (B 11) c = cd_l (kP σ c) := h.V.2.2.2.2.1 c hc
theorem RepM.G (h : RepM w m B σ g) {c : Nat} (hc : c < 40) : cd_I w 1001 (B 12) c = cd_b (g c) := h.V.2.2.2.2.2 c hc
theorem RepM.hw (h : RepM w m B σ g) {c : Nat} (hc : c < sC σ) : kH σ c < 6 ∧ kH σ c < sD σ ∧ kT σ c < 12 ∧ ∀ q, kP σ c = some q → q < c := by
  obtain ⟨h1, h2, h3⟩ := h.wf.2.2.2 c hc
  exact ⟨Nat.lt_of_lt_of_le h1 h.D6, h1, h2, h3⟩
theorem mow_k {k : Nat} (h1 : 3 ≤ k) (h2 : k ≤ 16) : mow m B (B k) := Or.inr ⟨k, h1, h2, rfl⟩
theorem mV_w (h : shM w m B) {k j : Nat} {v : Int32} (h1 : 3 ≤ k) (h2 : k ≤ 16) {k' j' : Nat} (h3 : 3 ≤ k') (h4 : k' ≤ 16) : mV (cd_wI w (mtg k) (B k) j v) B k' j' = upM (mV w B) k j v k' j' := by
  simp only [mV, upM, I_wI]
  by_cases e : k' = k
  · subst e
    simp
  · rw [if_neg (fun z => e (h.2.2 k' k h3 h4 h1 h2 z.2.1)), if_neg (fun z => e z.1)]
theorem RC.cg {V V' : Nat → Nat → Int32} (h : RC V σ g) (he : ∀ k j, 3 ≤ k → k ≤ 16 → V' k j = V k j) : RC V' σ g := by
  obtain ⟨a1, a2, a3, a4, a5, a6⟩ := h
  refine ⟨fun d hd => ?_, fun d o hd ho => ?_, fun d o f hd ho hf => ?_, fun d i hd hi => ?_, fun c hc => ?_, fun c hc => ?_⟩
  · rw [he 3 d (by omega) (by omega)]; exact a1 d hd
  · rw [he 4 _ (by omega) (by omega)]; exact a2 d o hd ho
  · rw [he 5 _ (by omega) (by omega), he 6 _ (by omega) (by omega)]; exact a3 d o f hd ho hf
  · rw [he 7 _ (by omega) (by omega)]; exact a4 d i hd hi
  · rw [he 8 _ (by omega) (by omega), he 9 _ (by omega) (by omega), he 10 _ (by omega) (by omega), he 11 _ (by omega) (by omega)]; exact a5 c hc
  · rw [he 12 _ (by omega) (by omega)]; exact a6 c hc
theorem rm_w (h : RepM w m B σ g) {k j : Nat} {v : Int32} (h1 : 3 ≤ k) (h2 : k ≤ 16) {σ' : cd_S} {g' : Nat → Bool} (hd : sDC σ σ') (hc : RC (upM (mV w B) k j v) σ' g') (hw : rp_w σ') : RepM (cd_wI w (mtg k) (B k) j v) m B σ' g' := by
  obtain ⟨a1, a2, a3, a4, a5, a6, a7⟩ := h
  have hmB : ¬ m = B k := fun e => by
    have := (a1.2.1 k h1 h2).2.1
    rw [← e, a1.1] at this
    unfold mk_k at this
    split at this <;> cases this
  refine ⟨⟨a1.1, a1.2.1, a1.2.2⟩, ?_, ?_, by rw [hd.1]; exact a4, by rw [hd.2]; exact a5, hc.cg fun k' j' h3 h4 => mV_w a1 h1 h2 h3 h4, hw⟩
  · rw [I_wI, if_neg (fun z => hmB z.2.1), hd.1]; exact a2
  · rw [I_wI, if_neg (fun z => hmB z.2.1), hd.2]; exact a3
/-- the arrays of the gathering, the code, the copies' number: they are no part of it -/
theorem rm_kA (h : RepM w m B σ g) {k j : Nat} {v : Int32} (h1 : 13 ≤ k) (h2 : k ≤ 16) : RepM (cd_wI w (mtg k) (B k) j v) m B σ g := by
  refine rm_w h (by omega) h2 ⟨rfl, rfl⟩ ?_ h.wf
  obtain ⟨a1, a2, a3, a4, a5, a6⟩ := h.V
  have e : ∀ k' j', k' < 13 → upM (mV w B) k j v k' j' = mV w B k' j' := fun k' j' hk => if_neg (fun z => by omega)
  refine ⟨fun d hd => ?_, fun d o hd ho => ?_, fun d o f hd ho hf => ?_, fun d i hd hi => ?_, fun c hc => ?_, fun c hc => ?_⟩
  · rw [e _ _ (by omega)]; exact a1 d hd
  · rw [e _ _ (by omega)]; exact a2 d o hd ho
  · rw [e _ _ (by omega), e _ _ (by omega)]; exact a3 d o f hd ho hf
  · rw [e _ _ (by omega)]; exact a4 d i hd hi
  · rw [e _ _ (by omega), e _ _ (by omega), e _ _ (by omega), e _ _ (by omega)]; exact a5 c hc
  · rw [e _ _ (by omega)]; exact a6 c hc
theorem rm_km (h : RepM w m B σ g) {t : Nat} {v : Int32} (ht : t ≠ 192) (ht' : t ≠ 193) (h1 : t ≠ 1000) (h2 : t ≠ 1001) : RepM (cd_wI w t m 0 v) m B σ g := by
  obtain ⟨a1, a2, a3, a4, a5, a6, a7⟩ := h
  refine ⟨⟨a1.1, a1.2.1, a1.2.2⟩, ?_, ?_, a4, a5, a6.cg fun k j _ _ => ?_, a7⟩
  · rw [I_wI, if_neg (fun z => ht z.1.symm)]; exact a2
  · rw [I_wI, if_neg (fun z => ht' z.1.symm)]; exact a3
  · simp only [mV]
    rw [I_wI, if_neg (fun z => ?_)]
    have : mtg k = 1000 ∨ mtg k = 1001 := by unfold mtg; split <;> simp
    omega
end ModelR
section RCu
variable {V : Nat → Nat → Int32} {σ : cd_S} {g : Nat → Bool}
theorem RC.E (h : RC V σ g) (d : Nat) (b : Bool) : RC (upM V 3 d (cd_b b)) (setE σ d b) g := by
  obtain ⟨a1, a2, a3, a4, a5, a6⟩ := h
  refine ⟨fun d' hd => ?_, fun d o hd ho => ?_, fun d o f hd ho hf => ?_, fun d i hd hi => ?_, fun c hc => ?_, fun c hc => ?_⟩
  · have := a1 d' hd
    by_cases e : d' = d
    · subst e; simp [upM, sE_setE]
    · simpa [upM, sE_setE, e] using this
  · simpa [upM, sT_setE0] using a2 d o hd ho
  · simpa [upM, sF_setE0] using a3 d o f hd ho hf
  · simpa [upM, sS_setE0] using a4 d i hd hi
  · simpa [upM, kH_setE0, kT_setE0, kR_setE0, kU_setE0, kP_setE0] using a5 c hc
  · simpa [upM] using a6 c hc
theorem ix12 {a b c d : Nat} (hb : b < 12) (hd : d < 12) : a * 12 + b = c * 12 + d ↔ a = c ∧ b = d := by omega
theorem ix8' {a b c d : Nat} (hb : b < 8) (hd : d < 8) : a * 8 + b = c * 8 + d ↔ a = c ∧ b = d := by omega
theorem ix36 {a b e c d f : Nat} (hb : b < 12) (hd : d < 12) (he : e < 3) (hf : f < 3) : (a * 12 + b) * 3 + e = (c * 12 + d) * 3 + f ↔ a = c ∧ b = d ∧ e = f := by omega
theorem RC.T (h : RC V σ g) (d : Nat) {o : Nat} (ho' : o < 12) (b : Bool) : RC (upM V 4 (d * 12 + o) (cd_b b)) (setT σ d o b) g := by
  obtain ⟨a1, a2, a3, a4, a5, a6⟩ := h
  refine ⟨fun d' hd => ?_, fun d' o' hd ho => ?_, fun d o f hd ho hf => ?_, fun d i hd hi => ?_, fun c hc => ?_, fun c hc => ?_⟩
  · simpa [upM, sE_setT0] using a1 d' hd
  · have := a2 d' o' hd ho
    simp only [upM, sT_setT, true_and, ix12 ho ho']
    split
    · rfl
    · exact this
  · simpa [upM, sF_setT0] using a3 d o f hd ho hf
  · simpa [upM, sS_setT0] using a4 d i hd hi
  · simpa [upM, kH_setT0, kT_setT0, kR_setT0, kU_setT0, kP_setT0] using a5 c hc
  · simpa [upM] using a6 c hc
theorem RC.F (h : RC V σ g) (d : Nat) {o f : Nat} (ho' : o < 12) (hf' : f < 3) (t : Int32 × Option Nat × Option Nat) : RC (upM (upM V 5 ((d * 12 + o) * 3 + f) (fS t)) 6 ((d * 12 + o) * 3 + f) (fV t)) (setF σ d o f t) g := by
  obtain ⟨a1, a2, a3, a4, a5, a6⟩ := h
  refine ⟨fun d' hd => ?_, fun d' o' hd ho => ?_, fun d' o' f' hd ho hf => ?_, fun d i hd hi => ?_, fun c hc => ?_, fun c hc => ?_⟩
  · simpa [upM, sE_setF0] using a1 d' hd
  · simpa [upM, sT_setF0] using a2 d' o' hd ho
  · have := a3 d' o' f' hd ho hf
    simp only [upM, sF_setF, true_and, ix36 ho ho' hf hf', show ¬ (5 = 6) from by decide, show ¬ (6 = 5) from by decide, false_and, if_false]
    split
    · exact ⟨rfl, rfl⟩
    · exact this
  · simpa [upM, sS_setF0] using a4 d i hd hi
  · simpa [upM, kH_setF0, kT_setF0, kR_setF0, kU_setF0, kP_setF0] using a5 c hc
  · simpa [upM] using a6 c hc
theorem RC.S (h : RC V σ g) (d : Nat) {i : Nat} (hi' : i < 8) (r : Option Nat) : RC (upM V 7 (d * 8 + i) (cd_l r)) (setS σ d i r) g := by
  obtain ⟨a1, a2, a3, a4, a5, a6⟩ := h
  refine ⟨fun d' hd => ?_, fun d' o' hd ho => ?_, fun d' o' f' hd ho hf => ?_, fun d' i' hd hi => ?_, fun c hc => ?_, fun c hc => ?_⟩
  · simpa [upM, sE_setS0] using a1 d' hd
  · simpa [upM, sT_setS0] using a2 d' o' hd ho
  · simpa [upM, sF_setS0] using a3 d' o' f' hd ho hf
  · have := a4 d' i' hd hi
    simp only [upM, sS_setS, true_and, ix8' hi hi']
    split
    · rfl
    · exact this
  · simpa [upM, kH_setS0, kT_setS0, kR_setS0, kU_setS0, kP_setS0] using a5 c hc
  · simpa [upM] using a6 c hc
theorem RC.U (h : RC V σ g) (c : Nat) (u : Int32) : RC (upM V 10 c u) (setU σ c u) g := by
  obtain ⟨a1, a2, a3, a4, a5, a6⟩ := h
  refine ⟨fun d' hd => ?_, fun d' o' hd ho => ?_, fun d' o' f' hd ho hf => ?_, fun d' i' hd hi => ?_, fun c' hc => ?_, fun c hc => ?_⟩
  · rw [show upM V 10 c u 3 d' = V 3 d' from if_neg (by omega)]; exact a1 d' hd
  · rw [show upM V 10 c u 4 (d' * 12 + o') = V 4 (d' * 12 + o') from if_neg (by omega)]; exact a2 d' o' hd ho
  · rw [show upM V 10 c u 5 ((d' * 12 + o') * 3 + f') = V 5 ((d' * 12 + o') * 3 + f') from if_neg (by omega), show upM V 10 c u 6 ((d' * 12 + o') * 3 + f') = V 6 ((d' * 12 + o') * 3 + f') from if_neg (by omega)]; exact a3 d' o' f' hd ho hf
  · rw [show upM V 10 c u 7 (d' * 8 + i') = V 7 (d' * 8 + i') from if_neg (by omega)]; exact a4 d' i' hd hi
  · have := a5 c' hc
    by_cases e : c' = c
    · subst e
      obtain ⟨q1, q2, q3, q4⟩ := this
      simp [upM, setU, kH_setK, kT_setK, kR_setK, kU_setK, kP_setK, q1, q2, q4]
    · simpa [upM, setU, kH_setK, kT_setK, kR_setK, kU_setK, kP_setK, e] using this
  · simpa [upM] using a6 c hc
theorem RC.G (h : RC V σ g) (c : Nat) : RC (upM V 12 c 1) σ (fun k => if k = c then true else g k) := by
  obtain ⟨a1, a2, a3, a4, a5, a6⟩ := h
  refine ⟨fun d' hd => ?_, fun d' o' hd ho => ?_, fun d' o' f' hd ho hf => ?_, fun d' i' hd hi => ?_, fun c' hc => ?_, fun c' hc => ?_⟩
  · simpa [upM] using a1 d' hd
  · simpa [upM] using a2 d' o' hd ho
  · simpa [upM] using a3 d' o' f' hd ho hf
  · simpa [upM] using a4 d' i' hd hi
  · simpa [upM] using a5 c' hc
  · have := a6 c' hc
    by_cases e : c' = c
    · subst e; simp [upM, cd_b]
    · simpa [upM, e] using this
theorem RC.K (h : RC V σ g) (hm tg : Nat) (pa : Option Nat) (r u : Int32) : RC (upM (upM (upM (upM V 8 (sC σ) (nI (hm * 12 + tg))) 9 (sC σ) r) 10 (sC σ) u) 11 (sC σ) (cd_l pa)) (addK σ (hm, tg, pa, r, u, false, false)) g := by
  obtain ⟨a1, a2, a3, a4, a5, a6⟩ := h
  refine ⟨fun d' hd => ?_, fun d' o' hd ho => ?_, fun d' o' f' hd ho hf => ?_, fun d' i' hd hi => ?_, fun c' hc => ?_, fun c' hc => ?_⟩
  · have e : sE (addK σ (hm, tg, pa, r, u, false, false)) d' = sE σ d' := rfl
    rw [e]
    simpa [upM] using a1 d' hd
  · have e : sT (addK σ (hm, tg, pa, r, u, false, false)) d' o' = sT σ d' o' := rfl
    rw [e]
    simpa [upM] using a2 d' o' hd ho
  · have e : sF (addK σ (hm, tg, pa, r, u, false, false)) d' o' f' = sF σ d' o' f' := rfl
    rw [e]
    simpa [upM] using a3 d' o' f' hd ho hf
  · have e : sS (addK σ (hm, tg, pa, r, u, false, false)) d' i' = sS σ d' i' := rfl
    rw [e]
    simpa [upM] using a4 d' i' hd hi
  · by_cases e : c' = sC σ
    · subst e
      simp [upM, kH, kT, kP, kR, kU, sK_aK]
    · have hc' : c' < sC σ := by have h1 : c' < sC σ + 1 := hc; omega
      have := a5 c' hc'
      have e0 : sK (addK σ (hm, tg, pa, r, u, false, false)) c' = sK σ c' := by rw [sK_aK, if_neg e]
      simp only [kH, kT, kP, kR, kU, e0] at this ⊢
      simpa [upM, e] using this
  · simpa [upM] using a6 c' hc
/-- dead and revoked are not in it -/
theorem RC.eq {τ : cd_S} (h : RC V σ g) (h1 : ∀ d, sE τ d = sE σ d) (h2 : ∀ d o, sT τ d o = sT σ d o) (h3 : ∀ d o f, sF τ d o f = sF σ d o f) (h4 : ∀ d i, sS τ d i = sS σ d i) (h5 : sC τ = sC σ) (h6 : ∀ c, kH τ c = kH σ c ∧ kT τ c = kT σ c ∧ kP τ c = kP σ c ∧ kR τ c = kR σ c ∧ kU τ c = kU σ c) : RC V τ g := by
  obtain ⟨a1, a2, a3, a4, a5, a6⟩ := h
  refine ⟨fun d' hd => ?_, fun d' o' hd ho => ?_, fun d' o' f' hd ho hf => ?_, fun d' i' hd hi => ?_, fun c hc => ?_, a6⟩
  · rw [h1]; exact a1 d' hd
  · rw [h2]; exact a2 d' o' hd ho
  · rw [h3]; exact a3 d' o' f' hd ho hf
  · rw [h4]; exact a4 d' i' hd hi
  · obtain ⟨e1, e2, e3, e4, e5⟩ := h6 c
    rw [e1, e2, e3, e4, e5]; exact a5 c (h5 ▸ hc)
end RCu
/-- dead, as the reference knows it -/
def rd (σ : cd_S) (g : Nat → Bool) (c : Nat) : Bool := (anc σ c).any (fun k => g k || sE σ (kH σ k))
def Rel (σ : cd_S) (g : Nat → Bool) : Prop := (∀ c, c < sC σ → kX σ c = rd σ g c) ∧ ∀ c, sC σ ≤ c → g c = false
theorem m12 (a : Nat) : nI a * 12 = nI (a * 12) := (Int32.ofNat_mul a 12).symm
theorem m8 (a : Nat) : nI a * 8 = nI (a * 8) := (Int32.ofNat_mul a 8).symm
theorem m3 (a : Nat) : nI a * 3 = nI (a * 3) := (Int32.ofNat_mul a 3).symm
theorem m36 (a : Nat) : nI a * 36 = nI (a * 36) := (Int32.ofNat_mul a 36).symm
theorem nI_div {a b : Nat} (ha : a < 2 ^ 31) (hb : b < 2 ^ 31) : nI a / nI b = nI (a / b) := by
  apply Int32.toInt_inj.mp
  have h1 : a / b < 2 ^ 31 := Nat.lt_of_le_of_lt (Nat.div_le_self a b) ha
  have hne : nI a ≠ Int32.minValue := by
    intro e
    have h3 := congrArg Int32.toInt e
    rw [nI_toInt ha] at h3
    have h2 : Int32.minValue.toInt = -2147483648 := by decide
    omega
  rw [Int32.toInt_div_of_ne_left (nI a) (nI b) hne, nI_toInt ha, nI_toInt hb, nI_toInt h1]
  exact (Int.ofNat_tdiv a b).symm
theorem d12 {h t : Nat} (hh : h < 6) (ht : t < 12) : nI (h * 12 + t) / 12 = nI h := by
  have h1 : nI (h * 12 + t) / nI 12 = nI ((h * 12 + t) / 12) := nI_div (by omega) (by omega)
  have h2 : (h * 12 + t) / 12 = h := by omega
  rw [h2] at h1
  exact h1
theorem nI_sub {a b : Nat} (h : b ≤ a) : nI a - nI b = nI (a - b) := by
  have h1 : nI (a - b) + nI b = nI a := by rw [nI_add]; congr 1; omega
  rw [← h1]
  exact Int32.add_sub_cancel _ _
