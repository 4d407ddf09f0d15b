/-! ===== every call keeps the invariant ===== -/
theorem isD_lt {σ : cd_S} {d : Int32} (h6 : sD σ ≤ 6) (h : isD σ d = true) : d.toNatClampNeg < sD σ := by
  obtain ⟨j, hj, rfl⟩ := isD_of h6 h
  rw [nI_clamp (by omega)]
  exact hj
theorem hasO_T {σ : cd_S} {d : Nat} {o : Int32} (h : hasO σ d o = true) : o.toNatClampNeg < 12 ∧ sT σ d o.toNatClampNeg = true := by
  obtain ⟨j, hj, rfl, ht⟩ := hasO_of h
  rw [nI_clamp (by omega)]
  exact ⟨hj, ht⟩
theorem isSl_lt {s : Int32} (h : isSl s = true) : s.toNatClampNeg < 8 := by
  obtain ⟨j, hj, rfl⟩ := isSl_of h
  rw [nI_clamp (by omega)]
  exact hj
theorem Iv_rD {σ : cd_S} (hI : cd_Iv σ) (h6 : sD σ ≤ 6) {d : Int32} {k : Nat → cd_R} (h : ∀ j, j = d.toNatClampNeg → j < sD σ → sE σ j = false → cd_Iv (k j).2.2) : cd_Iv (rD σ d k).2.2 := by
  unfold rD
  split
  · next hD =>
    split
    · exact hI
    · next hE => exact h _ rfl (isD_lt h6 hD) (Bool.eq_false_iff.mpr hE)
  · exact hI
theorem Iv_rF {σ : cd_S} (hI : cd_Iv σ) {j : Nat} {o f : Int32} {k : Nat → Nat → cd_R} (h : cd_Iv (k o.toNatClampNeg f.toNatClampNeg).2.2) : cd_Iv (rF σ j o f k).2.2 := by
  unfold rF
  split
  · split
    · exact h
    · exact hI
  · exact hI
theorem Iv_rS {σ : cd_S} (hI : cd_Iv σ) (hw : rp_w σ) {j : Nat} {s : Int32} {k : Nat → cd_R} (hj : j < sD σ) (hs : s.toNatClampNeg < 8) (h : ∀ c, c < sC σ → cd_Iv (k c).2.2) : cd_Iv (rS σ j s k).2.2 := by
  unfold rS
  split
  · next c hc => exact h c (hw.1 j _ c hj hs hc)
  · exact hI
theorem Iv_rU {σ : cd_S} (hI : cd_Iv σ) (hw : rp_w σ) (h6 : sD σ ≤ 6) {d s r : Int32} {k : Nat → Nat → cd_R} (h : ∀ j c, j < sD σ → sE σ j = false → c < sC σ → kX σ c = false → cd_Iv (k j c).2.2) : cd_Iv (rU σ d s r k).2.2 := by
  unfold rU
  split
  · next hds =>
    have hs := isSl_lt (Bool.and_eq_true_iff.mp hds).2
    refine Iv_rD hI h6 fun j _ hj he => Iv_rS hI hw hj hs fun c hc => ?_
    split
    · exact hI
    · next hx =>
      split
      · exact h j c hj he hc (Bool.or_eq_false_iff.mp (Bool.eq_false_iff.mpr hx)).1
      · exact hI
  · exact hI
theorem Iv_domain {σ : cd_S} {g : Nat → Bool} (hI : cd_Iv σ) (hw : rp_w σ) (h6 : sD σ ≤ 6) (hL : Rel σ g) : cd_Iv (sp_domain σ).2.2 := by
  unfold sp_domain
  split
  · exact Iv_addD hI
  · exact hI
theorem Iv_object {σ : cd_S} {g : Nat → Bool} (hI : cd_Iv σ) (hw : rp_w σ) (h6 : sD σ ≤ 6) (hL : Rel σ g) (d : Int32) : cd_Iv (sp_object σ d).2.2 := by
  unfold sp_object
  refine Iv_rD hI h6 fun j _ hj he => ?_
  split
  · exact Iv_newO hI hj he
  · exact hI
theorem Iv_set {σ : cd_S} {g : Nat → Bool} (hI : cd_Iv σ) (hw : rp_w σ) (h6 : sD σ ≤ 6) (hL : Rel σ g) (d o f v : Int32) : cd_Iv (sp_set σ d o f v).2.2 := by
  unfold sp_set
  exact Iv_rD hI h6 fun j _ hj he => Iv_rF hI (Iv_setF hI hj (fOk_n v) (fun _ z => by cases z))
theorem Iv_link {σ : cd_S} {g : Nat → Bool} (hI : cd_Iv σ) (hw : rp_w σ) (h6 : sD σ ≤ 6) (hL : Rel σ g) (d o f t : Int32) : cd_Iv (sp_link σ d o f t).2.2 := by
  unfold sp_link
  refine Iv_rD hI h6 fun j _ hj he => Iv_rF hI ?_
  split
  · next ht => exact Iv_setF hI hj (fOk_l _) (fun _ z => by cases z; exact (hasO_T ht).2)
  · exact hI
theorem Iv_hold {σ : cd_S} {g : Nat → Bool} (hI : cd_Iv σ) (hw : rp_w σ) (h6 : sD σ ≤ 6) (hL : Rel σ g) (d o f s : Int32) : cd_Iv (sp_hold σ d o f s).2.2 := by
  unfold sp_hold
  refine Iv_rD hI h6 fun j _ hj he => Iv_rF hI ?_
  split
  · split
    · exact Iv_setF hI hj (fOk_c _) (fun _ z => by cases z)
    · exact hI
  · exact hI
theorem Iv_export {σ : cd_S} {g : Nat → Bool} (hI : cd_Iv σ) (hw : rp_w σ) (h6 : sD σ ≤ 6) (hL : Rel σ g) (d o s r u : Int32) : cd_Iv (sp_export σ d o s r u).2.2 := by
  unfold sp_export
  split
  · split
    · refine Iv_rD hI h6 fun j _ hj he => ?_
      split
      · next hO =>
        split
        · exact Iv_setS (Iv_addK hI (fun c hc => (hw.2.2.2 c hc).2.2) he (hasO_T hO).2 (fun _ z => by cases z)) hj
        · exact hI
      · exact hI
    · exact hI
  · exact hI
theorem Iv_narrow {σ : cd_S} {g : Nat → Bool} (hI : cd_Iv σ) (hw : rp_w σ) (h6 : sD σ ≤ 6) (hL : Rel σ g) (d s r u : Int32) : cd_Iv (sp_narrow σ d s r u).2.2 := by
  unfold sp_narrow
  split
  · next hds =>
    have hs := isSl_lt (Bool.and_eq_true_iff.mp hds).2
    split
    · refine Iv_rD hI h6 fun j _ hj he => Iv_rS hI hw hj hs fun c hc => ?_
      split
      · exact hI
      · next hx =>
        have hx := Bool.eq_false_iff.mpr hx
        obtain ⟨l1, l2, l3⟩ := hI.lv hc hx
        split
        · split
          · exact Iv_setS (Iv_addK hI (fun c hc => (hw.2.2.2 c hc).2.2) l2 l3 (fun _ z => by cases z; exact ⟨hc, hx⟩)) hj
          · exact hI
        · exact hI
    · exact hI
  · exact hI
theorem Iv_give {σ : cd_S} {g : Nat → Bool} (hI : cd_Iv σ) (hw : rp_w σ) (h6 : sD σ ≤ 6) (hL : Rel σ g) (d s e t : Int32) : cd_Iv (sp_give σ d s e t).2.2 := by
  unfold sp_give
  split
  · next hds =>
    have hs := isSl_lt (Bool.and_eq_true_iff.mp hds).2
    split
    · exact Iv_rD hI h6 fun j _ hj he => Iv_rD hI h6 fun i _ hi he2 => Iv_rS hI hw hj hs fun c hc => Iv_setS hI hi
    · exact hI
  · exact hI
theorem Iv_read {σ : cd_S} {g : Nat → Bool} (hI : cd_Iv σ) (hw : rp_w σ) (h6 : sD σ ≤ 6) (hL : Rel σ g) (d s f : Int32) : cd_Iv (sp_read σ d s f).2.2 := by
  unfold sp_read
  refine Iv_rU hI hw h6 fun j c hj he hc hx => ?_
  split
  · split
    · exact hI.eqv (spend_eqv σ c)
    · exact hI
  · exact hI
theorem Iv_write {σ : cd_S} {g : Nat → Bool} (hI : cd_Iv σ) (hw : rp_w σ) (h6 : sD σ ≤ 6) (hL : Rel σ g) (d s f v : Int32) : cd_Iv (sp_write σ d s f v).2.2 := by
  unfold sp_write
  refine Iv_rU hI hw h6 fun j c hj he hc hx => ?_
  split
  · exact (Iv_setF hI (hw.2.2.2 c hc).1 (fOk_n v) (fun _ z => by cases z)).eqv (spend_eqv _ c)
  · exact hI
theorem Iv_take {σ : cd_S} {g : Nat → Bool} (hI : cd_Iv σ) (hw : rp_w σ) (h6 : sD σ ≤ 6) (hL : Rel σ g) (d s f t : Int32) : cd_Iv (sp_take σ d s f t).2.2 := by
  unfold sp_take
  refine Iv_rU hI hw h6 fun j c hj he hc hx => ?_
  split
  · split
    · split
      · exact Iv_setS (hI.eqv (spend_eqv σ c)) (by rw [(spend_eqv σ c).1.1]; exact hj)
      · exact hI
    · exact hI
  · exact hI
theorem Iv_passs {σ : cd_S} {g : Nat → Bool} (hI : cd_Iv σ) (hw : rp_w σ) (h6 : sD σ ≤ 6) (hL : Rel σ g) (d s f o : Int32) : cd_Iv (sp_pass σ d s f o).2.2 := by
  unfold sp_pass
  refine Iv_rU hI hw h6 fun j c hj he hc hx => ?_
  obtain ⟨l1, l2, l3⟩ := hI.lv hc hx
  split
  · split
    · next hO =>
      split
      · exact hI
      · next hg =>
        have hWf : WfA ([] : List Nat) := ⟨List.nodup_nil, fun y hy => by cases hy⟩
        obtain ⟨hWL, -, hTL⟩ := come_ok (σ := σ) (d := j) 12 o [] hWf
        obtain ⟨hpL, hCL⟩ := come_cl (σ := σ) (d := j) 12 o [] hWf (by simp)
        have hTL : ∀ y ∈ come σ j 12 o [], sT σ j y = true := fun y hy => (hTL y hy).elim (fun z => by cases z) id
        exact Iv_pass hI hj (hw.2.2.2 c hc).1 l2 hWL hTL (fun y hy f t hf ht => hCL y hy (fun z => by cases z) f hf t ht (hw.2.2.1 j y f t hj (hWL.2 y hy) hf ht) (hI.2.2.2.1 j y f t hj (hWL.2 y hy) hf (hTL y hy) ht)) (by omega) (hpL hO)
    · exact hI
  · exact hI
theorem Iv_revok {σ : cd_S} {g : Nat → Bool} (hI : cd_Iv σ) (hw : rp_w σ) (h6 : sD σ ≤ 6) (hL : Rel σ g) (d s : Int32) : cd_Iv (sp_revoke σ d s).2.2 := by
  unfold sp_revoke
  split
  · next hds =>
    have hs := isSl_lt (Bool.and_eq_true_iff.mp hds).2
    refine Iv_rD hI h6 fun j _ hj he => Iv_rS hI hw hj hs fun c hc => ?_
    split
    · exact Iv_revoke hI hL (fun c hc => (hw.2.2.2 c hc).2.2) hc
    · exact hI
  · exact hI
theorem Iv_fre {σ : cd_S} {g : Nat → Bool} (hI : cd_Iv σ) (hw : rp_w σ) (h6 : sD σ ≤ 6) (hL : Rel σ g) (d s : Int32) : cd_Iv (sp_free σ d s).2.2 := by
  unfold sp_free
  exact Iv_rU hI hw h6 fun j c hj he hc hx => Iv_free hI hL hw (hw.2.2.2 c hc).1 (hw.2.2.2 c hc).2.1
theorem Iv_en {σ : cd_S} {g : Nat → Bool} (hI : cd_Iv σ) (hw : rp_w σ) (h6 : sD σ ≤ 6) (hL : Rel σ g) (d : Int32) : cd_Iv (sp_end σ d).2.2 := by
  unfold sp_end
  exact Iv_rD hI h6 fun j _ hj he => Iv_end hI hL hw hj
/-! ===== class and reference side by side ===== -/
theorem RepM.ex {w : cd_Wd} {m : Nat} {B : Nat → Nat} {σ : cd_S} {g : Nat → Bool} (h : RepM w m B σ g) {y : Nat} (hy : mow m B y) : cd_kd w y ≠ 0 := by
  rcases hy with rfl | ⟨k, h1, h2, rfl⟩
  · rw [h.km]; decide
  · rw [(h.a k h1 h2).2.1]; exact (mk_k0 k).1
theorem RepM.fr {w w' : cd_Wd} {m : Nat} {B : Nat → Nat} {σ : cd_S} {g : Nat → Bool} {P : Nat → Prop} (h : RepM w m B σ g) (hF : cd_Fr w w' P) (hP : ∀ y, mow m B y → ¬ P y) : RepM w' m B σ g := by
  have em := h.ex (Or.inl rfl : mow m B m)
  have pm := hP m (Or.inl rfl)
  obtain ⟨⟨a1, a2, a3⟩, b1, b2, b3, b4, b5, b6⟩ := h
  have ek : ∀ k, 3 ≤ k → k ≤ 16 → cd_kd w (B k) ≠ 0 := fun k x y => by rw [(a2 k x y).2.1]; exact (mk_k0 k).1
  have pk : ∀ k, 3 ≤ k → k ≤ 16 → ¬ P (B k) := fun k x y => hP _ (mow_k x y)
  refine ⟨⟨(hF.k em).trans a1, fun k x y => ⟨(hF.O em pm _ _).trans (a2 k x y).1, (hF.k (ek k x y)).trans (a2 k x y).2.1, (hF.l (ek k x y)).trans (a2 k x y).2.2⟩, a3⟩, (hF.I em pm _ _).trans b1, (hF.I em pm _ _).trans b2, b3, b4, b5.cg fun k j x y => ?_, b6⟩
  exact hF.I (ek k x y) (pk k x y) _ _
theorem cd_Fr.J {w w' : cd_Wd} {P : Nat → Prop} (h : cd_Fr w w' P) {b : Nat} (hb : cd_kd w b ≠ 0) (hp : ¬ P b) (j : Nat) : cd_J w' b j = cd_J w b j := ((h b hb).2.2 hp).2.2 j
def LJ (w : cd_Wd) (x m ou : Nat) (A : cd_A) (B : Nat → Nat) (σ : cd_S) (g : Nat → Bool) : Prop := cd_Rep w x A σ ∧ RepM w m B σ g ∧ Rel σ g ∧ cd_Iv σ ∧ cd_kd w ou = 5 ∧ cd_ln w ou = 1 ∧ (∀ a, cd_ow x A σ a → ¬ mow m B a) ∧ ¬ cd_ow x A σ ou ∧ ¬ mow m B ou
theorem LJ.cls {w w1 : cd_Wd} {x m ou : Nat} {A A1 : cd_A} {B : Nat → Nat} {σ τ : cd_S} {g : Nat → Bool} (h : LJ w x m ou A B σ g) (hF : cd_Fr w w1 (fun y => cd_ow x A σ y ∨ y = ou)) (hs : ∀ a, cd_ow x A1 τ a → cd_ow x A σ a ∨ cd_kd w a = 0) : RepM w1 m B σ g ∧ cd_kd w1 ou = 5 ∧ cd_ln w1 ou = 1 ∧ (∀ a, cd_ow x A1 τ a → ¬ mow m B a) ∧ ¬ cd_ow x A1 τ ou := by
  obtain ⟨h1, h2, h3, h4, h5, h6, h7, h8, h9⟩ := h
  refine ⟨h2.fr hF fun y hy z => ?_, (hF.k (by rw [h5]; decide)).trans h5, (hF.l (by rw [h5]; decide)).trans h6, fun a ha hm => ?_, fun ha => ?_⟩
  · rcases z with z | rfl
    · exact h7 y z hy
    · exact h9 hy
  · rcases hs a ha with z | z
    · exact h7 a z hm
    · exact h2.ex hm z
  · rcases hs ou ha with z | z
    · exact h8 z
    · rw [h5] at z; cases z
theorem LJ.mod {w1 w2 : cd_Wd} {x m ou : Nat} {A1 : cd_A} {B : Nat → Nat} {τ : cd_S} {g2 : Nat → Bool} (hR : cd_Rep w1 x A1 τ) (hk : cd_kd w1 ou = 5) (hl : cd_ln w1 ou = 1) (hs : ∀ a, cd_ow x A1 τ a → ¬ mow m B a) (ho : ¬ cd_ow x A1 τ ou) (hm : ¬ mow m B ou) (hM2 : RepM w2 m B τ g2) (hL2 : Rel τ g2) (hI2 : cd_Iv τ) (hF2 : cd_Fr w1 w2 (mow m B)) : LJ w2 x m ou A1 B τ g2 ∧ cd_J w2 ou 0 = cd_J w1 ou 0 :=
  ⟨⟨rep_fr hR hF2 hs, hM2, hL2, hI2, (hF2.k (by rw [hk]; decide)).trans hk, (hF2.l (by rw [hk]; decide)).trans hl, hs, ho, hm⟩, hF2.J (by rw [hk]; decide) hm 0⟩
theorem sw19 (v : Int32) : v = 0 ∨ v = 1 ∨ v = 2 ∨ v = 3 ∨ v = 4 ∨ v = 5 ∨ v = 6 ∨ v = 7 ∨ v = 8 ∨ v = 9 ∨ v = 10 ∨ v = 11 ∨ v = 12 ∨ v = 13 ∨ v = 14 ∨ v = 15 ∨ v = 16 ∨ v = 17 ∨ v = 18 ∨ (v.toInt < 0 ∨ 18 < v.toInt) := by
  by_cases h0 : v.toInt < 0 ∨ 18 < v.toInt
  · exact Or.inr (Or.inr (Or.inr (Or.inr (Or.inr (Or.inr (Or.inr (Or.inr (Or.inr (Or.inr (Or.inr (Or.inr (Or.inr (Or.inr (Or.inr (Or.inr (Or.inr (Or.inr (Or.inr h0))))))))))))))))))
  · have hp : ¬ v < 0 := fun z => h0 (Or.inl (by
      have := Int32.lt_iff_toInt_lt.mp z
      have e0 : (0 : Int32).toInt = 0 := by decide
      omega))
    obtain ⟨j, hj, rfl⟩ := nI_of hp
    rw [nI_toInt hj] at h0
    have hc : j = 0 ∨ j = 1 ∨ j = 2 ∨ j = 3 ∨ j = 4 ∨ j = 5 ∨ j = 6 ∨ j = 7 ∨ j = 8 ∨ j = 9 ∨ j = 10 ∨ j = 11 ∨ j = 12 ∨ j = 13 ∨ j = 14 ∨ j = 15 ∨ j = 16 ∨ j = 17 ∨ j = 18 := by omega
    rcases hc with rfl | rfl | rfl | rfl | rfl | rfl | rfl | rfl | rfl | rfl | rfl | rfl | rfl | rfl | rfl | rfl | rfl | rfl | rfl <;> decide
theorem ic6 (j : Nat) : nI (6 * j) + Int32.ofInt 6 = nI (6 * (j + 1)) := by
  rw [show Int32.ofInt 6 = nI 6 from by decide, nI_add]
  congr 1
theorem len6 {L j : Nat} (hL : L ≤ 3072) (hj : j ≤ 600) : nI L - 6 < nI (6 * j) ↔ L < 6 * j + 6 := by
  have e : (nI L - 6).toInt = (L : Int) - 6 := by
    rw [Int32.toInt_sub, nI_toInt (by omega)]
    have h6 : (6 : Int32).toInt = 6 := by decide
    rw [h6]
    exact Int.bmod_eq_of_le (by omega) (by omega)
  rw [Int32.lt_iff_toInt_lt, e, nI_toInt (by omega)]
  omega
theorem lg_self (z : Int64) : lg_cmp z z = 0 := by
  simp [lg_cmp]
