/-! ===== what one write makes of the state ===== -/
def setE (σ : cd_S) (d : Nat) (b : Bool) : cd_S := (σ.1, σ.2.1, fun d' => if d' = d then b else σ.2.2.1 d', σ.2.2.2)
def setT (σ : cd_S) (d o : Nat) (b : Bool) : cd_S := (σ.1, σ.2.1, σ.2.2.1, fun d' o' => if d' = d ∧ o' = o then b else σ.2.2.2.1 d' o', σ.2.2.2.2)
def setF (σ : cd_S) (d o f : Nat) (t : Int32 × Option Nat × Option Nat) : cd_S := (σ.1, σ.2.1, σ.2.2.1, σ.2.2.2.1, fun d' o' f' => if d' = d ∧ o' = o ∧ f' = f then t else σ.2.2.2.2.1 d' o' f', σ.2.2.2.2.2)
def setS (σ : cd_S) (d i : Nat) (r : Option Nat) : cd_S := (σ.1, σ.2.1, σ.2.2.1, σ.2.2.2.1, σ.2.2.2.2.1, fun d' i' => if d' = d ∧ i' = i then r else σ.2.2.2.2.2.1 d' i', σ.2.2.2.2.2.2)
def setK (σ : cd_S) (c : Nat) (t : Nat × Nat × Option Nat × Int32 × Int32 × Bool × Bool) : cd_S := (σ.1, σ.2.1, σ.2.2.1, σ.2.2.2.1, σ.2.2.2.2.1, σ.2.2.2.2.2.1, fun c' => if c' = c then t else σ.2.2.2.2.2.2 c')
def setU (σ : cd_S) (c : Nat) (u : Int32) : cd_S := setK σ c (kH σ c, kT σ c, kP σ c, kR σ c, u, kV σ c, kX σ c)
def setV (σ : cd_S) (c : Nat) (b : Bool) : cd_S := setK σ c (kH σ c, kT σ c, kP σ c, kR σ c, kU σ c, b, kX σ c)
def setX (σ : cd_S) (c : Nat) (b : Bool) : cd_S := setK σ c (kH σ c, kT σ c, kP σ c, kR σ c, kU σ c, kV σ c, b)
theorem sK_setK (σ : cd_S) (c : Nat) (t : Nat × Nat × Option Nat × Int32 × Int32 × Bool × Bool) (c' : Nat) : sK (setK σ c t) c' = if c' = c then t else sK σ c' := rfl
theorem sF_setF (σ : cd_S) (d o f : Nat) (t : Int32 × Option Nat × Option Nat) (d' o' f' : Nat) : sF (setF σ d o f t) d' o' f' = if d' = d ∧ o' = o ∧ f' = f then t else sF σ d' o' f' := rfl
theorem sS_setS (σ : cd_S) (d i : Nat) (r : Option Nat) (d' i' : Nat) : sS (setS σ d i r) d' i' = if d' = d ∧ i' = i then r else sS σ d' i' := rfl
theorem sT_setT (σ : cd_S) (d o : Nat) (b : Bool) (d' o' : Nat) : sT (setT σ d o b) d' o' = if d' = d ∧ o' = o then b else sT σ d' o' := rfl
theorem sE_setE (σ : cd_S) (d : Nat) (b : Bool) (d' : Nat) : sE (setE σ d b) d' = if d' = d then b else sE σ d' := rfl
theorem sD_setE0 (σ : cd_S) (d : Nat) (b : Bool)  : sD (setE σ d b)  = sD σ  := rfl
theorem sC_setE0 (σ : cd_S) (d : Nat) (b : Bool)  : sC (setE σ d b)  = sC σ  := rfl
theorem sT_setE0 (σ : cd_S) (d : Nat) (b : Bool) (d9 o9 : Nat) : sT (setE σ d b) d9 o9 = sT σ d9 o9 := rfl
theorem sF_setE0 (σ : cd_S) (d : Nat) (b : Bool) (d9 o9 f9 : Nat) : sF (setE σ d b) d9 o9 f9 = sF σ d9 o9 f9 := rfl
theorem sS_setE0 (σ : cd_S) (d : Nat) (b : Bool) (d9 i9 : Nat) : sS (setE σ d b) d9 i9 = sS σ d9 i9 := rfl
theorem sK_setE0 (σ : cd_S) (d : Nat) (b : Bool) (c9 : Nat) : sK (setE σ d b) c9 = sK σ c9 := rfl
theorem kH_setE0 (σ : cd_S) (d : Nat) (b : Bool) (c9 : Nat) : kH (setE σ d b) c9 = kH σ c9 := rfl
theorem kT_setE0 (σ : cd_S) (d : Nat) (b : Bool) (c9 : Nat) : kT (setE σ d b) c9 = kT σ c9 := rfl
theorem kP_setE0 (σ : cd_S) (d : Nat) (b : Bool) (c9 : Nat) : kP (setE σ d b) c9 = kP σ c9 := rfl
theorem kR_setE0 (σ : cd_S) (d : Nat) (b : Bool) (c9 : Nat) : kR (setE σ d b) c9 = kR σ c9 := rfl
theorem kU_setE0 (σ : cd_S) (d : Nat) (b : Bool) (c9 : Nat) : kU (setE σ d b) c9 = kU σ c9 := rfl
theorem kV_setE0 (σ : cd_S) (d : Nat) (b : Bool) (c9 : Nat) : kV (setE σ d b) c9 = kV σ c9 := rfl
theorem kX_setE0 (σ : cd_S) (d : Nat) (b : Bool) (c9 : Nat) : kX (setE σ d b) c9 = kX σ c9 := rfl
theorem sD_setT0 (σ : cd_S) (d o : Nat) (b : Bool)  : sD (setT σ d o b)  = sD σ  := rfl
theorem sC_setT0 (σ : cd_S) (d o : Nat) (b : Bool)  : sC (setT σ d o b)  = sC σ  := rfl
theorem sE_setT0 (σ : cd_S) (d o : Nat) (b : Bool) (d9 : Nat) : sE (setT σ d o b) d9 = sE σ d9 := rfl
theorem sF_setT0 (σ : cd_S) (d o : Nat) (b : Bool) (d9 o9 f9 : Nat) : sF (setT σ d o b) d9 o9 f9 = sF σ d9 o9 f9 := rfl
theorem sS_setT0 (σ : cd_S) (d o : Nat) (b : Bool) (d9 i9 : Nat) : sS (setT σ d o b) d9 i9 = sS σ d9 i9 := rfl
theorem sK_setT0 (σ : cd_S) (d o : Nat) (b : Bool) (c9 : Nat) : sK (setT σ d o b) c9 = sK σ c9 := rfl
theorem kH_setT0 (σ : cd_S) (d o : Nat) (b : Bool) (c9 : Nat) : kH (setT σ d o b) c9 = kH σ c9 := rfl
theorem kT_setT0 (σ : cd_S) (d o : Nat) (b : Bool) (c9 : Nat) : kT (setT σ d o b) c9 = kT σ c9 := rfl
theorem kP_setT0 (σ : cd_S) (d o : Nat) (b : Bool) (c9 : Nat) : kP (setT σ d o b) c9 = kP σ c9 := rfl
theorem kR_setT0 (σ : cd_S) (d o : Nat) (b : Bool) (c9 : Nat) : kR (setT σ d o b) c9 = kR σ c9 := rfl
theorem kU_setT0 (σ : cd_S) (d o : Nat) (b : Bool) (c9 : Nat) : kU (setT σ d o b) c9 = kU σ c9 := rfl
theorem kV_setT0 (σ : cd_S) (d o : Nat) (b : Bool) (c9 : Nat) : kV (setT σ d o b) c9 = kV σ c9 := rfl
theorem kX_setT0 (σ : cd_S) (d o : Nat) (b : Bool) (c9 : Nat) : kX (setT σ d o b) c9 = kX σ c9 := rfl
theorem sD_setF0 (σ : cd_S) (d o f : Nat) (t : Int32 × Option Nat × Option Nat)  : sD (setF σ d o f t)  = sD σ  := rfl
theorem sC_setF0 (σ : cd_S) (d o f : Nat) (t : Int32 × Option Nat × Option Nat)  : sC (setF σ d o f t)  = sC σ  := rfl
theorem sE_setF0 (σ : cd_S) (d o f : Nat) (t : Int32 × Option Nat × Option Nat) (d9 : Nat) : sE (setF σ d o f t) d9 = sE σ d9 := rfl
theorem sT_setF0 (σ : cd_S) (d o f : Nat) (t : Int32 × Option Nat × Option Nat) (d9 o9 : Nat) : sT (setF σ d o f t) d9 o9 = sT σ d9 o9 := rfl
theorem sS_setF0 (σ : cd_S) (d o f : Nat) (t : Int32 × Option Nat × Option Nat) (d9 i9 : Nat) : sS (setF σ d o f t) d9 i9 = sS σ d9 i9 := rfl
theorem sK_setF0 (σ : cd_S) (d o f : Nat) (t : Int32 × Option Nat × Option Nat) (c9 : Nat) : sK (setF σ d o f t) c9 = sK σ c9 := rfl
theorem kH_setF0 (σ : cd_S) (d o f : Nat) (t : Int32 × Option Nat × Option Nat) (c9 : Nat) : kH (setF σ d o f t) c9 = kH σ c9 := rfl
theorem kT_setF0 (σ : cd_S) (d o f : Nat) (t : Int32 × Option Nat × Option Nat) (c9 : Nat) : kT (setF σ d o f t) c9 = kT σ c9 := rfl
theorem kP_setF0 (σ : cd_S) (d o f : Nat) (t : Int32 × Option Nat × Option Nat) (c9 : Nat) : kP (setF σ d o f t) c9 = kP σ c9 := rfl
theorem kR_setF0 (σ : cd_S) (d o f : Nat) (t : Int32 × Option Nat × Option Nat) (c9 : Nat) : kR (setF σ d o f t) c9 = kR σ c9 := rfl
theorem kU_setF0 (σ : cd_S) (d o f : Nat) (t : Int32 × Option Nat × Option Nat) (c9 : Nat) : kU (setF σ d o f t) c9 = kU σ c9 := rfl
theorem kV_setF0 (σ : cd_S) (d o f : Nat) (t : Int32 × Option Nat × Option Nat) (c9 : Nat) : kV (setF σ d o f t) c9 = kV σ c9 := rfl
theorem kX_setF0 (σ : cd_S) (d o f : Nat) (t : Int32 × Option Nat × Option Nat) (c9 : Nat) : kX (setF σ d o f t) c9 = kX σ c9 := rfl
theorem sD_setS0 (σ : cd_S) (d i : Nat) (r : Option Nat)  : sD (setS σ d i r)  = sD σ  := rfl
theorem sC_setS0 (σ : cd_S) (d i : Nat) (r : Option Nat)  : sC (setS σ d i r)  = sC σ  := rfl
theorem sE_setS0 (σ : cd_S) (d i : Nat) (r : Option Nat) (d9 : Nat) : sE (setS σ d i r) d9 = sE σ d9 := rfl
theorem sT_setS0 (σ : cd_S) (d i : Nat) (r : Option Nat) (d9 o9 : Nat) : sT (setS σ d i r) d9 o9 = sT σ d9 o9 := rfl
theorem sF_setS0 (σ : cd_S) (d i : Nat) (r : Option Nat) (d9 o9 f9 : Nat) : sF (setS σ d i r) d9 o9 f9 = sF σ d9 o9 f9 := rfl
theorem sK_setS0 (σ : cd_S) (d i : Nat) (r : Option Nat) (c9 : Nat) : sK (setS σ d i r) c9 = sK σ c9 := rfl
theorem kH_setS0 (σ : cd_S) (d i : Nat) (r : Option Nat) (c9 : Nat) : kH (setS σ d i r) c9 = kH σ c9 := rfl
theorem kT_setS0 (σ : cd_S) (d i : Nat) (r : Option Nat) (c9 : Nat) : kT (setS σ d i r) c9 = kT σ c9 := rfl
theorem kP_setS0 (σ : cd_S) (d i : Nat) (r : Option Nat) (c9 : Nat) : kP (setS σ d i r) c9 = kP σ c9 := rfl
theorem kR_setS0 (σ : cd_S) (d i : Nat) (r : Option Nat) (c9 : Nat) : kR (setS σ d i r) c9 = kR σ c9 := rfl
theorem kU_setS0 (σ : cd_S) (d i : Nat) (r : Option Nat) (c9 : Nat) : kU (setS σ d i r) c9 = kU σ c9 := rfl
theorem kV_setS0 (σ : cd_S) (d i : Nat) (r : Option Nat) (c9 : Nat) : kV (setS σ d i r) c9 = kV σ c9 := rfl
theorem kX_setS0 (σ : cd_S) (d i : Nat) (r : Option Nat) (c9 : Nat) : kX (setS σ d i r) c9 = kX σ c9 := rfl
theorem sD_setK0 (σ : cd_S) (c : Nat) (t : Nat × Nat × Option Nat × Int32 × Int32 × Bool × Bool)  : sD (setK σ c t)  = sD σ  := rfl
theorem sC_setK0 (σ : cd_S) (c : Nat) (t : Nat × Nat × Option Nat × Int32 × Int32 × Bool × Bool)  : sC (setK σ c t)  = sC σ  := rfl
theorem sE_setK0 (σ : cd_S) (c : Nat) (t : Nat × Nat × Option Nat × Int32 × Int32 × Bool × Bool) (d9 : Nat) : sE (setK σ c t) d9 = sE σ d9 := rfl
theorem sT_setK0 (σ : cd_S) (c : Nat) (t : Nat × Nat × Option Nat × Int32 × Int32 × Bool × Bool) (d9 o9 : Nat) : sT (setK σ c t) d9 o9 = sT σ d9 o9 := rfl
theorem sF_setK0 (σ : cd_S) (c : Nat) (t : Nat × Nat × Option Nat × Int32 × Int32 × Bool × Bool) (d9 o9 f9 : Nat) : sF (setK σ c t) d9 o9 f9 = sF σ d9 o9 f9 := rfl
theorem sS_setK0 (σ : cd_S) (c : Nat) (t : Nat × Nat × Option Nat × Int32 × Int32 × Bool × Bool) (d9 i9 : Nat) : sS (setK σ c t) d9 i9 = sS σ d9 i9 := rfl
section Upd
variable {w : cd_Wd} {x : Nat} {A : cd_A} {σ : cd_S}
/-- a number that the state doesn't speak of -/
theorem rep_keepI (h : cd_Rep w x A σ) {t a j : Nat} {v : Int32} (ht : t ∉ [1, 3, 32, 64, 96, 97, 129, 131, 132, 133, 134]) : cd_Rep (cd_wI w t a j v) x A σ := by
  have e : ∀ t' a' j', t' ∈ [1, 3, 32, 64, 96, 97, 129, 131, 132, 133, 134] → cd_I (cd_wI w t a j v) t' a' j' = cd_I w t' a' j' := fun t' a' j' h' => by
    rw [I_wI, if_neg]
    rintro ⟨rfl, -⟩
    exact ht h'
  obtain ⟨h1, h2, h3, h4, h5, h6, h7, h8⟩ := h
  refine ⟨?_, fun d hd => ?_, fun d o hd ho => ?_, fun d o f hd ho hf => ?_, h5, fun c hc => ?_, h7, h8⟩
  · simp only [rp_x, kd_wI, ln_wI, O_wI] at h1 ⊢
    rw [e 1 _ _ (by decide), e 3 _ _ (by decide)]
    exact h1
  · have := h2 d hd
    simp only [kd_wI, ln_wI, O_wI]
    rw [e 32 _ _ (by decide)]
    exact this
  · have := h3 d o hd ho
    simp only [kd_wI, ln_wI, O_wI]
    rw [e 64 _ _ (by decide)]
    exact this
  · have := h4 d o f hd ho hf
    simp only [kd_wI, O_wI]
    rw [e 96 _ _ (by decide), e 97 _ _ (by decide)]
    exact this
  · have := h6 c hc
    simp only [kd_wI, O_wI]
    rw [e 129 _ _ (by decide), e 131 _ _ (by decide), e 132 _ _ (by decide), e 133 _ _ (by decide), e 134 _ _ (by decide)]
    exact this
theorem rep_keepO (h : cd_Rep w x A σ) {t a j : Nat} {v : Option Nat} (ht : t ∉ [0, 2, 4, 161, 162, 163, 1003, 33, 34, 1004, 65, 1005, 98, 1006, 128, 130]) : cd_Rep (cd_wO w t a j v) x A σ := by
  have e : ∀ t' a' j', t' ∈ [0, 2, 4, 161, 162, 163, 1003, 33, 34, 1004, 65, 1005, 98, 1006, 128, 130] → cd_O (cd_wO w t a j v) t' a' j' = cd_O w t' a' j' := fun t' a' j' h' => by
    rw [O_wO, if_neg]
    rintro ⟨rfl, -⟩
    exact ht h'
  obtain ⟨h1, h2, h3, h4, h5, h6, h7, h8⟩ := h
  refine ⟨?_, fun d hd => ?_, fun d o hd ho => ?_, fun d o f hd ho hf => ?_, fun d i hd hi => ?_, fun c hc => ?_, h7, h8⟩
  · simp only [rp_x, kd_wO, ln_wO, I_wO] at h1 ⊢
    rw [e 0 _ _ (by decide), e 2 _ _ (by decide), e 4 _ _ (by decide), e 161 _ _ (by decide), e 162 _ _ (by decide), e 163 _ _ (by decide)]
    exact h1
  · have := h2 d hd
    simp only [kd_wO, ln_wO, I_wO]
    rw [e 1003 _ _ (by decide), e 33 _ _ (by decide), e 34 _ _ (by decide)]
    exact this
  · have := h3 d o hd ho
    simp only [kd_wO, ln_wO, I_wO]
    rw [e 1004 _ _ (by decide), e 65 _ _ (by decide)]
    exact this
  · have := h4 d o f hd ho hf
    simp only [kd_wO, I_wO]
    rw [e 1005 _ _ (by decide), e 98 _ _ (by decide)]
    exact this
  · have := h5 d i hd hi
    rw [e 1006 _ _ (by decide)]
    exact this
  · have := h6 c hc
    simp only [kd_wO, I_wO]
    rw [e 1006 _ _ (by decide), e 128 _ _ (by decide), e 130 _ _ (by decide)]
    exact this
/-- a field: its int, its link, its capability -/
theorem rep_F (h : cd_Rep w x A σ) {d o f : Nat} (hd : d < sD σ) (ho : o < 12) (hf : f < 3) {v : Int32} {lk cp : Option Nat} (hlk : ∀ t, lk = some t → t < 12) (hcp : ∀ c, cp = some c → c < sC σ) :
    cd_Rep (cd_wO (cd_wI (cd_wI w 96 (A 6 d o f) 0 v) 97 (A 6 d o f) 0 (cd_l lk)) 98 (A 6 d o f) 0 (cp.map (fun c => A 8 c 0 0))) x A (setF σ d o f (v, lk, cp)) := by
  obtain ⟨h1, h2, h3, h4, h5, h6, h7, h8⟩ := h
  refine ⟨?_, fun d' hd' => ?_, fun d' o' hd' ho' => ?_, fun d' o' f' hd' ho' hf' => ?_, fun d' i hd' hi => ?_, fun c hc => ?_, h7, ?_⟩
  · simpa [sD_setF0, sC_setF0, sE_setF0, sT_setF0, sS_setF0, sK_setF0, kH_setF0, kT_setF0, kP_setF0, kR_setF0, kU_setF0, kV_setF0, kX_setF0, rp_x, kd_wI, ln_wI, O_wI, I_wI, kd_wO, ln_wO, O_wO, I_wO] using h1
  · simpa [sD_setF0, sC_setF0, sE_setF0, sT_setF0, sS_setF0, sK_setF0, kH_setF0, kT_setF0, kP_setF0, kR_setF0, kU_setF0, kV_setF0, kX_setF0, kd_wI, ln_wI, O_wI, I_wI, kd_wO, ln_wO, O_wO, I_wO] using h2 d' hd'
  · simpa [sD_setF0, sC_setF0, sE_setF0, sT_setF0, sS_setF0, sK_setF0, kH_setF0, kT_setF0, kP_setF0, kR_setF0, kU_setF0, kV_setF0, kX_setF0, kd_wI, ln_wI, O_wI, I_wI, kd_wO, ln_wO, O_wO, I_wO] using h3 d' o' hd' ho'
  · have q := h4 d' o' f' hd' ho' hf'
    by_cases e : d' = d ∧ o' = o ∧ f' = f
    · obtain ⟨rfl, rfl, rfl⟩ := e
      simpa [sD_setF0, sC_setF0, sE_setF0, sT_setF0, sS_setF0, sK_setF0, kH_setF0, kT_setF0, kP_setF0, kR_setF0, kU_setF0, kV_setF0, kX_setF0, kd_wI, ln_wI, O_wI, I_wI, kd_wO, ln_wO, O_wO, I_wO, sF_setF] using ⟨q.1, q.2.1⟩
    · have hne : ¬ A 6 d' o' f' = A 6 d o f := fun z => e (h7 6 d' o' f' 6 d o f ⟨hd', ho', hf'⟩ ⟨hd, ho, hf⟩ z).2
      simpa [sD_setF0, sC_setF0, sE_setF0, sT_setF0, sS_setF0, sK_setF0, kH_setF0, kT_setF0, kP_setF0, kR_setF0, kU_setF0, kV_setF0, kX_setF0, kd_wI, ln_wI, O_wI, I_wI, kd_wO, ln_wO, O_wO, I_wO, sF_setF, hne, e] using q
  · simpa [sD_setF0, sC_setF0, sE_setF0, sT_setF0, sS_setF0, sK_setF0, kH_setF0, kT_setF0, kP_setF0, kR_setF0, kU_setF0, kV_setF0, kX_setF0, kd_wI, ln_wI, O_wI, I_wI, kd_wO, ln_wO, O_wO, I_wO] using h5 d' i hd' hi
  · simpa [sD_setF0, sC_setF0, sE_setF0, sT_setF0, sS_setF0, sK_setF0, kH_setF0, kT_setF0, kP_setF0, kR_setF0, kU_setF0, kV_setF0, kX_setF0, kd_wI, ln_wI, O_wI, I_wI, kd_wO, ln_wO, O_wO, I_wO] using h6 c hc
  · obtain ⟨g1, g2, g3, g4⟩ := h8
    refine ⟨g1, fun d' o' f' c hd' ho' hf' hq => ?_, fun d' o' f' t hd' ho' hf' hq => ?_, g4⟩
    · rw [sF_setF] at hq
      split at hq
      · exact hcp c hq
      · exact g2 d' o' f' c hd' ho' hf' hq
    · rw [sF_setF] at hq
      split at hq
      · exact hlk t hq
      · exact g3 d' o' f' t hd' ho' hf' hq
theorem rep_T (h : cd_Rep w x A σ) {d o : Nat} (hd : d < sD σ) (ho : o < 12) (b : Bool) : cd_Rep (cd_wI w 64 (A 4 d o 0) 0 (cd_b b)) x A (setT σ d o b) := by
  obtain ⟨h1, h2, h3, h4, h5, h6, h7, h8⟩ := h
  refine ⟨?_, fun d' hd' => ?_, fun d' o' hd' ho' => ?_, fun d' o' f' hd' ho' hf' => ?_, fun d' i hd' hi => ?_, fun c hc => ?_, h7, h8⟩
  · simpa [sD_setT0, sC_setT0, sE_setT0, sF_setT0, sS_setT0, sK_setT0, kH_setT0, kT_setT0, kP_setT0, kR_setT0, kU_setT0, kV_setT0, kX_setT0, rp_x, kd_wI, ln_wI, O_wI, I_wI] using h1
  · simpa [sD_setT0, sC_setT0, sE_setT0, sF_setT0, sS_setT0, sK_setT0, kH_setT0, kT_setT0, kP_setT0, kR_setT0, kU_setT0, kV_setT0, kX_setT0, kd_wI, ln_wI, O_wI, I_wI] using h2 d' hd'
  · have q := h3 d' o' hd' ho'
    by_cases e : d' = d ∧ o' = o
    · obtain ⟨rfl, rfl⟩ := e
      simpa [sD_setT0, sC_setT0, sE_setT0, sF_setT0, sS_setT0, sK_setT0, kH_setT0, kT_setT0, kP_setT0, kR_setT0, kU_setT0, kV_setT0, kX_setT0, kd_wI, ln_wI, O_wI, I_wI, sT_setT] using ⟨q.1, q.2.1, q.2.2.2⟩
    · have hne : ¬ A 4 d' o' 0 = A 4 d o 0 := fun z => e (by have := h7 4 d' o' 0 4 d o 0 ⟨hd', ho', rfl⟩ ⟨hd, ho, rfl⟩ z; exact ⟨this.2.1, this.2.2.1⟩)
      simpa [sD_setT0, sC_setT0, sE_setT0, sF_setT0, sS_setT0, sK_setT0, kH_setT0, kT_setT0, kP_setT0, kR_setT0, kU_setT0, kV_setT0, kX_setT0, kd_wI, ln_wI, O_wI, I_wI, sT_setT, hne, e] using q
  · simpa [sD_setT0, sC_setT0, sE_setT0, sF_setT0, sS_setT0, sK_setT0, kH_setT0, kT_setT0, kP_setT0, kR_setT0, kU_setT0, kV_setT0, kX_setT0, kd_wI, ln_wI, O_wI, I_wI] using h4 d' o' f' hd' ho' hf'
  · simpa [sD_setT0, sC_setT0, sE_setT0, sF_setT0, sS_setT0, sK_setT0, kH_setT0, kT_setT0, kP_setT0, kR_setT0, kU_setT0, kV_setT0, kX_setT0, kd_wI, ln_wI, O_wI, I_wI] using h5 d' i hd' hi
  · simpa [sD_setT0, sC_setT0, sE_setT0, sF_setT0, sS_setT0, sK_setT0, kH_setT0, kT_setT0, kP_setT0, kR_setT0, kU_setT0, kV_setT0, kX_setT0, kd_wI, ln_wI, O_wI, I_wI] using h6 c hc
theorem rep_E (h : cd_Rep w x A σ) {d : Nat} (hd : d < sD σ) (b : Bool) : cd_Rep (cd_wI w 32 (A 1 d 0 0) 0 (cd_b b)) x A (setE σ d b) := by
  obtain ⟨h1, h2, h3, h4, h5, h6, h7, h8⟩ := h
  refine ⟨?_, fun d' hd' => ?_, fun d' o' hd' ho' => ?_, fun d' o' f' hd' ho' hf' => ?_, fun d' i hd' hi => ?_, fun c hc => ?_, h7, h8⟩
  · simpa [sD_setE0, sC_setE0, sT_setE0, sF_setE0, sS_setE0, sK_setE0, kH_setE0, kT_setE0, kP_setE0, kR_setE0, kU_setE0, kV_setE0, kX_setE0, rp_x, kd_wI, ln_wI, O_wI, I_wI] using h1
  · have q := h2 d' hd'
    by_cases e : d' = d
    · subst e
      simpa [sD_setE0, sC_setE0, sT_setE0, sF_setE0, sS_setE0, sK_setE0, kH_setE0, kT_setE0, kP_setE0, kR_setE0, kU_setE0, kV_setE0, kX_setE0, kd_wI, ln_wI, O_wI, I_wI, sE_setE] using ⟨q.1, q.2.1, q.2.2.1, q.2.2.2.1, q.2.2.2.2.1, q.2.2.2.2.2.1, q.2.2.2.2.2.2.1, q.2.2.2.2.2.2.2.1⟩
    · have hne : ¬ A 1 d' 0 0 = A 1 d 0 0 := fun z => e (h7 1 d' 0 0 1 d 0 0 ⟨hd', rfl, rfl⟩ ⟨hd, rfl, rfl⟩ z).2.1
      simpa [sD_setE0, sC_setE0, sT_setE0, sF_setE0, sS_setE0, sK_setE0, kH_setE0, kT_setE0, kP_setE0, kR_setE0, kU_setE0, kV_setE0, kX_setE0, kd_wI, ln_wI, O_wI, I_wI, sE_setE, hne, e] using q
  · simpa [sD_setE0, sC_setE0, sT_setE0, sF_setE0, sS_setE0, sK_setE0, kH_setE0, kT_setE0, kP_setE0, kR_setE0, kU_setE0, kV_setE0, kX_setE0, kd_wI, ln_wI, O_wI, I_wI] using h3 d' o' hd' ho'
  · simpa [sD_setE0, sC_setE0, sT_setE0, sF_setE0, sS_setE0, sK_setE0, kH_setE0, kT_setE0, kP_setE0, kR_setE0, kU_setE0, kV_setE0, kX_setE0, kd_wI, ln_wI, O_wI, I_wI] using h4 d' o' f' hd' ho' hf'
  · simpa [sD_setE0, sC_setE0, sT_setE0, sF_setE0, sS_setE0, sK_setE0, kH_setE0, kT_setE0, kP_setE0, kR_setE0, kU_setE0, kV_setE0, kX_setE0, kd_wI, ln_wI, O_wI, I_wI] using h5 d' i hd' hi
  · simpa [sD_setE0, sC_setE0, sT_setE0, sF_setE0, sS_setE0, sK_setE0, kH_setE0, kT_setE0, kP_setE0, kR_setE0, kU_setE0, kV_setE0, kX_setE0, kd_wI, ln_wI, O_wI, I_wI] using h6 c hc
theorem rep_S (h : cd_Rep w x A σ) {d i : Nat} (hd : d < sD σ) (hi : i < 8) {r : Option Nat} (hr : ∀ c, r = some c → c < sC σ) : cd_Rep (cd_wO w 1006 (A 3 d 0 0) i (r.map (fun c => A 8 c 0 0))) x A (setS σ d i r) := by
  obtain ⟨h1, h2, h3, h4, h5, h6, h7, h8⟩ := h
  refine ⟨?_, fun d' hd' => ?_, fun d' o' hd' ho' => ?_, fun d' o' f' hd' ho' hf' => ?_, fun d' i' hd' hi' => ?_, fun c hc => ?_, h7, ?_⟩
  · simpa [sD_setS0, sC_setS0, sE_setS0, sT_setS0, sF_setS0, sK_setS0, kH_setS0, kT_setS0, kP_setS0, kR_setS0, kU_setS0, kV_setS0, kX_setS0, rp_x, kd_wO, ln_wO, O_wO, I_wO] using h1
  · simpa [sD_setS0, sC_setS0, sE_setS0, sT_setS0, sF_setS0, sK_setS0, kH_setS0, kT_setS0, kP_setS0, kR_setS0, kU_setS0, kV_setS0, kX_setS0, kd_wO, ln_wO, O_wO, I_wO] using h2 d' hd'
  · simpa [sD_setS0, sC_setS0, sE_setS0, sT_setS0, sF_setS0, sK_setS0, kH_setS0, kT_setS0, kP_setS0, kR_setS0, kU_setS0, kV_setS0, kX_setS0, kd_wO, ln_wO, O_wO, I_wO] using h3 d' o' hd' ho'
  · simpa [sD_setS0, sC_setS0, sE_setS0, sT_setS0, sF_setS0, sK_setS0, kH_setS0, kT_setS0, kP_setS0, kR_setS0, kU_setS0, kV_setS0, kX_setS0, kd_wO, ln_wO, O_wO, I_wO] using h4 d' o' f' hd' ho' hf'
  · have q := h5 d' i' hd' hi'
    by_cases e : d' = d
    · subst e
      by_cases e2 : i' = i
      · subst e2
        simp [sD_setS0, sC_setS0, sE_setS0, sT_setS0, sF_setS0, sK_setS0, kH_setS0, kT_setS0, kP_setS0, kR_setS0, kU_setS0, kV_setS0, kX_setS0, O_wO, sS_setS]
      · simpa [sD_setS0, sC_setS0, sE_setS0, sT_setS0, sF_setS0, sK_setS0, kH_setS0, kT_setS0, kP_setS0, kR_setS0, kU_setS0, kV_setS0, kX_setS0, O_wO, sS_setS, e2] using q
    · have hne : ¬ A 3 d' 0 0 = A 3 d 0 0 := fun z => e (h7 3 d' 0 0 3 d 0 0 ⟨hd', rfl, rfl⟩ ⟨hd, rfl, rfl⟩ z).2.1
      simpa [sD_setS0, sC_setS0, sE_setS0, sT_setS0, sF_setS0, sK_setS0, kH_setS0, kT_setS0, kP_setS0, kR_setS0, kU_setS0, kV_setS0, kX_setS0, O_wO, sS_setS, hne, e] using q
  · have hne : ¬ A 7 0 0 0 = A 3 d 0 0 := fun z => by have := (h7 7 0 0 0 3 d 0 0 ⟨rfl, rfl, rfl⟩ ⟨hd, rfl, rfl⟩ z).1; omega
    simpa [sD_setS0, sC_setS0, sE_setS0, sT_setS0, sF_setS0, sK_setS0, kH_setS0, kT_setS0, kP_setS0, kR_setS0, kU_setS0, kV_setS0, kX_setS0, kd_wO, ln_wO, O_wO, I_wO, hne] using h6 c hc
  · obtain ⟨g1, g2, g3, g4⟩ := h8
    refine ⟨fun d' i' c hd' hi' hq => ?_, g2, g3, g4⟩
    rw [sS_setS] at hq
    split at hq
    · exact hr c hq
    · exact g1 d' i' c hd' hi' hq
theorem kH_setK (σ : cd_S) (c : Nat) (t : Nat × Nat × Option Nat × Int32 × Int32 × Bool × Bool) (c' : Nat) : kH (setK σ c t) c' = if c' = c then t.1 else kH σ c' := by rw [kH, sK_setK]; split <;> rfl
theorem kT_setK (σ : cd_S) (c : Nat) (t : Nat × Nat × Option Nat × Int32 × Int32 × Bool × Bool) (c' : Nat) : kT (setK σ c t) c' = if c' = c then t.2.1 else kT σ c' := by rw [kT, sK_setK]; split <;> rfl
theorem kP_setK (σ : cd_S) (c : Nat) (t : Nat × Nat × Option Nat × Int32 × Int32 × Bool × Bool) (c' : Nat) : kP (setK σ c t) c' = if c' = c then t.2.2.1 else kP σ c' := by rw [kP, sK_setK]; split <;> rfl
theorem kR_setK (σ : cd_S) (c : Nat) (t : Nat × Nat × Option Nat × Int32 × Int32 × Bool × Bool) (c' : Nat) : kR (setK σ c t) c' = if c' = c then t.2.2.2.1 else kR σ c' := by rw [kR, sK_setK]; split <;> rfl
theorem kU_setK (σ : cd_S) (c : Nat) (t : Nat × Nat × Option Nat × Int32 × Int32 × Bool × Bool) (c' : Nat) : kU (setK σ c t) c' = if c' = c then t.2.2.2.2.1 else kU σ c' := by rw [kU, sK_setK]; split <;> rfl
theorem kV_setK (σ : cd_S) (c : Nat) (t : Nat × Nat × Option Nat × Int32 × Int32 × Bool × Bool) (c' : Nat) : kV (setK σ c t) c' = if c' = c then t.2.2.2.2.2.1 else kV σ c' := by rw [kV, sK_setK]; split <;> rfl
theorem kX_setK (σ : cd_S) (c : Nat) (t : Nat × Nat × Option Nat × Int32 × Int32 × Bool × Bool) (c' : Nat) : kX (setK σ c t) c' = if c' = c then t.2.2.2.2.2.2 else kX σ c' := by rw [kX, sK_setK]; split <;> rfl
/-- one number of a capability: its uses (132), revoked (133), dead (134) -/
theorem rep_K (h : cd_Rep w x A σ) {c : Nat} (hc : c < sC σ) (t : Nat) (v : Int32) (u : Int32) (bv bx : Bool) (ht : (t = 132 ∧ v = u ∧ bv = kV σ c ∧ bx = kX σ c) ∨ (t = 133 ∧ u = kU σ c ∧ v = cd_b bv ∧ bx = kX σ c) ∨ (t = 134 ∧ u = kU σ c ∧ bv = kV σ c ∧ v = cd_b bx)) :
    cd_Rep (cd_wI w t (A 8 c 0 0) 0 v) x A (setK σ c (kH σ c, kT σ c, kP σ c, kR σ c, u, bv, bx)) := by
  obtain ⟨h1, h2, h3, h4, h5, h6, h7, h8⟩ := h
  have hw : rp_w (setK σ c (kH σ c, kT σ c, kP σ c, kR σ c, u, bv, bx)) := by
    obtain ⟨g1, g2, g3, g4⟩ := h8
    refine ⟨g1, g2, g3, fun c' hc' => ?_⟩
    have q := g4 c' hc'
    rw [kH_setK, kT_setK, kP_setK]
    by_cases e : c' = c
    · subst e; simpa [sD_setK0] using q
    · simpa [sD_setK0, sC_setK0, sE_setK0, sT_setK0, sF_setK0, sS_setK0, e] using q
  have hcc : ∀ c', c' < sC σ → c' ≠ c → ¬ A 8 c' 0 0 = A 8 c 0 0 := fun c' hc' e z => e (h7 8 c' 0 0 8 c 0 0 ⟨hc', rfl, rfl⟩ ⟨hc, rfl, rfl⟩ z).2.1
  rcases ht with ⟨rfl, rfl, rfl, rfl⟩ | ⟨rfl, rfl, rfl, rfl⟩ | ⟨rfl, rfl, rfl, rfl⟩ <;>
  (refine ⟨?_, fun d' hd' => ?_, fun d' o' hd' ho' => ?_, fun d' o' f' hd' ho' hf' => ?_, fun d' i hd' hi => ?_, fun c' hc' => ?_, h7, hw⟩
   · simpa [sD_setK0, sC_setK0, sE_setK0, sT_setK0, sF_setK0, sS_setK0, rp_x, kd_wI, ln_wI, O_wI, I_wI] using h1
   · simpa [sD_setK0, sC_setK0, sE_setK0, sT_setK0, sF_setK0, sS_setK0, kd_wI, ln_wI, O_wI, I_wI] using h2 d' hd'
   · simpa [sD_setK0, sC_setK0, sE_setK0, sT_setK0, sF_setK0, sS_setK0, kd_wI, ln_wI, O_wI, I_wI] using h3 d' o' hd' ho'
   · simpa [sD_setK0, sC_setK0, sE_setK0, sT_setK0, sF_setK0, sS_setK0, kd_wI, ln_wI, O_wI, I_wI] using h4 d' o' f' hd' ho' hf'
   · simpa [sD_setK0, sC_setK0, sE_setK0, sT_setK0, sF_setK0, sS_setK0, kd_wI, ln_wI, O_wI, I_wI] using h5 d' i hd' hi
   · have q := h6 c' hc'
     by_cases e : c' = c
     · subst e
       obtain ⟨q1, q2, q3, q4, q5, q6, q7, q8, q9⟩ := q
       simp [sD_setK0, sC_setK0, sE_setK0, sT_setK0, sF_setK0, sS_setK0, kd_wI, ln_wI, O_wI, I_wI, kH_setK, kT_setK, kP_setK, kR_setK, kU_setK, kV_setK, kX_setK, *]
     · have hne := hcc c' hc' e
       simpa [sD_setK0, sC_setK0, sE_setK0, sT_setK0, sF_setK0, sS_setK0, kd_wI, ln_wI, O_wI, I_wI, kH_setK, kT_setK, kP_setK, kR_setK, kU_setK, kV_setK, kX_setK, hne, e] using q)
theorem rep_U (h : cd_Rep w x A σ) {c : Nat} (hc : c < sC σ) (u : Int32) : cd_Rep (cd_wI w 132 (A 8 c 0 0) 0 u) x A (setU σ c u) := rep_K h hc 132 u u _ _ (Or.inl ⟨rfl, rfl, rfl, rfl⟩)
theorem rep_V (h : cd_Rep w x A σ) {c : Nat} (hc : c < sC σ) (b : Bool) : cd_Rep (cd_wI w 133 (A 8 c 0 0) 0 (cd_b b)) x A (setV σ c b) := rep_K h hc 133 _ _ b _ (Or.inr (Or.inl ⟨rfl, rfl, rfl, rfl⟩))
theorem rep_X (h : cd_Rep w x A σ) {c : Nat} (hc : c < sC σ) (b : Bool) : cd_Rep (cd_wI w 134 (A 8 c 0 0) 0 (cd_b b)) x A (setX σ c b) := rep_K h hc 134 _ _ _ b (Or.inr (Or.inr ⟨rfl, rfl, rfl, rfl⟩))
end Upd
