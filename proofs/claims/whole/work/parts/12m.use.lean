set_option maxHeartbeats 4000000 in
set_option maxRecDepth 100000 in
theorem ct_Cd_usable {G : cd_Gl} {l : Launch} {w : cd_Wd} {Q : cd_Out → cd_Wd → Prop} (hst : l.stackTraces = false) {x : Nat} {A : cd_A} {σ : cd_S} (hR : cd_Rep w x A σ) {d s r : Int32} (h1 : (isD σ d && isSl s) = false → Q (.inr 1) w) (h2 : ∀ j i, j < sD σ → d = nI j → i < 8 → s = nI i → sE σ j = true → Q (.inr 2) w) (h3 : ∀ j i, j < sD σ → d = nI j → i < 8 → s = nI i → sE σ j = false → sS σ j i = none → Q (.inr 3) w) (h4 : ∀ j i c, j < sD σ → d = nI j → i < 8 → s = nI i → sE σ j = false → sS σ j i = some c → c < sC σ → (kX σ c || upB σ c) = true → Q (.inr 2) w) (h5 : ∀ j i c, j < sD σ → d = nI j → i < 8 → s = nI i → sE σ j = false → sS σ j i = some c → c < sC σ → (kX σ c || upB σ c) = false → alw σ c r = false → Q (.inr 4) w) (h6 : ∀ j i c, j < sD σ → d = nI j → i < 8 → s = nI i → sE σ j = false → sS σ j i = some c → c < sC σ → (kX σ c || upB σ c) = false → alw σ c r = true → Q (.inl (some (.ref (A 8 c 0 0)))) w) : cd_Ct G l y_Cd_usable 7 4 24 [.ref x, .int d, .int s, .int r] w Q := by
  refine cd_ofW cw_Cd_usable (by simp [Value.category, cat_rf]) (Nat.le_of_ble_eq_true rfl) fun C O => ?_
  change cd_Go G l C _ 0 0 w 0 [some (.ref x), some (.int d), some (.int s), some (.int r), none] []
  first | refine g_aload_n O 0 d_Cd_usable_0 rfl rfl ?_ | refine g_aload_nq O 0 d_Cd_usable_0 rfl rfl ?_
  refine g_iload_n O 1 d_Cd_usable_1 rfl rfl ?_
  refine g_iload_n O 2 d_Cd_usable_2 rfl rfl ?_
  refine g_callv (N := 6) (mc := 1) (ms := 6) (av := [_, _]) O (Or.inl ⟨_, _, cw_Cd_requireSlot⟩) pl_Cd (ci := 0) (q := q_Cd) rfl hR.top.1 ml_Cd_97 im_Cd_requireSlot se_Cd_requireSlot rfl d_Cd_usable_3 rfl (Nat.le_of_ble_eq_true rfl) (Nat.le_of_ble_eq_true rfl) (Nat.le_of_ble_eq_true rfl) (Nat.le_of_ble_eq_true rfl) ?_
  refine ct_Cd_requireSlot hst hR (fun e => ?_) (fun hD hS => ?_)
  · exact gx_out O (Nat.le_of_ble_eq_true rfl) (Nat.le_of_ble_eq_true rfl) (h1 e)
  obtain ⟨j, hj, rfl⟩ := isD_of hR.top.2.2.2.2.2.2.2.2.2.2.2.2.2.2.2.2.2.2.2.1 hD
  obtain ⟨i, hi, rfl⟩ := isSl_of hS
  have hj6 : j < 6 := Nat.lt_of_lt_of_le hj hR.top.2.2.2.2.2.2.2.2.2.2.2.2.2.2.2.2.2.2.2.1
  change cd_Go _ _ _ _ _ _ _ _ _ _
  first | refine g_aload_n O 0 d_Cd_usable_6 rfl rfl ?_ | refine g_aload_nq O 0 d_Cd_usable_6 rfl rfl ?_
  refine g_iload_n O 1 d_Cd_usable_7 rfl rfl ?_
  refine g_callv (N := 6) (mc := 1) (ms := 6) (av := [_]) O (Or.inl ⟨_, _, cw_Cd_livingDomain⟩) pl_Cd (ci := 0) (q := q_Cd) rfl hR.top.1 ml_Cd_40 im_Cd_livingDomain se_Cd_livingDomain rfl d_Cd_usable_8 rfl (Nat.le_of_ble_eq_true rfl) (Nat.le_of_ble_eq_true rfl) (Nat.le_of_ble_eq_true rfl) (Nat.le_of_ble_eq_true rfl) ?_
  refine ct_Cd_livingDomain hst hR (fun e => ?_) (fun j2 hj2 ej he => ?_) (fun j2 hj2 ej he => ?_)
  · rw [hD] at e; cases e
  · obtain rfl : j = j2 := (nI_eq (by omega) (by have := hR.top.2.2.2.2.2.2.2.2.2.2.2.2.2.2.2.2.2.2.2.1; omega)).mp ej
    exact gx_out O (Nat.le_of_ble_eq_true rfl) (Nat.le_of_ble_eq_true rfl) (h2 j i hj rfl hi rfl he)
  obtain rfl : j = j2 := (nI_eq (by omega) (by have := hR.top.2.2.2.2.2.2.2.2.2.2.2.2.2.2.2.2.2.2.2.1; omega)).mp ej
  change cd_Go _ _ _ _ _ _ _ _ _ _
  refine g_iload_n O 2 d_Cd_usable_11 rfl rfl ?_
  refine g_calls (N := 6) (mc := 1) (ms := 6) (av := [_, _]) O (Or.inl ⟨_, _, cw_Cd_capabilityIn⟩) pl_Cd ml_Cd_89 st_Cd_capabilityIn in_Cd rfl d_Cd_usable_12 rfl (Nat.le_of_ble_eq_true rfl) (Nat.le_of_ble_eq_true rfl) (Nat.le_of_ble_eq_true rfl) (Nat.le_of_ble_eq_true rfl) ?_
  refine ct_Cd_capabilityIn hst hR hj hi (fun e => ?_) (fun c hs hc => ?_)
  · exact gx_out O (Nat.le_of_ble_eq_true rfl) (Nat.le_of_ble_eq_true rfl) (h3 j i hj rfl hi rfl he e)
  change cd_Go _ _ _ _ _ _ _ _ _ _
  first | refine g_astore O d_Cd_usable_15 (Nat.le_of_ble_eq_true rfl) ?_ | refine g_astoreq O d_Cd_usable_15 (Nat.le_of_ble_eq_true rfl) ?_
  first | refine g_aload O d_Cd_usable_17 rfl ?_ | refine g_aloadq O d_Cd_usable_17 rfl ?_
  refine g_getV O c_Ca 6 (by decide) rfl (hR.c hc).2.1 lk_Cd_116 d_Cd_usable_19 (hR.c hc).2.2.2.2.2.2.2.2 ?_
  refine g_if_ne O 33 d_Cd_usable_22 (by decide) (fun c22 => ?_) (fun c22 => ?_)
  · have e := h4 j i c hj rfl hi rfl he hs hc (by simp [cd_b_ne.mp c22])
    refine g_throwW (E := 2) O hst ew_2 (by decide +kernel) kl_Cd_32 ia_IllegalStateException in_IllegalStateException ml_Cd_36 ss_Cd_262 d_Cd_usable_33 d_Cd_usable_36 d_Cd_usable_37 d_Cd_usable_40 d_Cd_usable_43 rfl (Nat.le_of_ble_eq_true rfl) (Nat.le_of_ble_eq_true rfl) (Nat.le_of_ble_eq_true rfl) (Nat.le_of_ble_eq_true rfl) (Nat.le_of_ble_eq_true rfl) (Nat.le_of_ble_eq_true rfl) ?_
    exact e
  · first | refine g_aload O d_Cd_usable_25 rfl ?_ | refine g_aloadq O d_Cd_usable_25 rfl ?_
    refine g_callv (N := 0) (mc := 0) (ms := 0) (av := []) O (Or.inl ⟨_, _, cw_Ca_isUsedUp⟩) pl_Ca (ci := 4) (q := q_Ca) rfl (hR.c hc).2.1 ml_Cd_259 im_Ca_isUsedUp se_Ca_isUsedUp rfl d_Cd_usable_27 rfl (Nat.le_of_ble_eq_true rfl) (Nat.le_of_ble_eq_true rfl) (Nat.le_of_ble_eq_true rfl) (Nat.le_of_ble_eq_true rfl) ?_
    refine ct_Ca_isUsedUp hR hc ?_
    change cd_Go _ _ _ _ _ _ _ _ _ _
    refine g_if_eq O 44 d_Cd_usable_30 (by decide) (fun c30 => ?_) (fun c30 => ?_)
    · have hxu : (kX σ c || upB σ c) = false := by simp [cd_b_eq.mp c22, cd_b_eq.mp c30]
      first | refine g_aload O d_Cd_usable_44 rfl ?_ | refine g_aloadq O d_Cd_usable_44 rfl ?_
      refine g_iload_n O 3 d_Cd_usable_46 rfl rfl ?_
      refine g_callv (N := 0) (mc := 0) (ms := 0) (av := [_]) O (Or.inl ⟨_, _, cw_Ca_allows⟩) pl_Ca (ci := 4) (q := q_Ca) rfl (hR.c hc).2.1 ml_Cd_122 im_Ca_allows se_Ca_allows rfl d_Cd_usable_47 rfl (Nat.le_of_ble_eq_true rfl) (Nat.le_of_ble_eq_true rfl) (Nat.le_of_ble_eq_true rfl) (Nat.le_of_ble_eq_true rfl) ?_
      refine ct_Ca_allows hR hc ?_
      change cd_Go _ _ _ _ _ _ _ _ _ _
      refine g_if_ne O 64 d_Cd_usable_50 (by decide) (fun c50 => ?_) (fun c50 => ?_)
      · have e := h6 j i c hj rfl hi rfl he hs hc hxu (cd_b_ne.mp c50)
        first | refine g_aload O d_Cd_usable_64 rfl ?_ | refine g_aloadq O d_Cd_usable_64 rfl ?_
        first | refine g_aretS O d_Cd_usable_66 (Nat.le_of_ble_eq_true rfl) (Nat.le_of_ble_eq_true rfl) ?_ | refine g_aretN O d_Cd_usable_66 (Nat.le_of_ble_eq_true rfl) (Nat.le_of_ble_eq_true rfl) ?_
        exact e
      · have e := h5 j i c hj rfl hi rfl he hs hc hxu (cd_b_eq.mp c50)
        refine g_throwW (E := 4) O hst ew_4 (by decide +kernel) kl_Cd_125 ia_UnsupportedOperationException in_UnsupportedOperationException ml_Cd_129 ss_Cd_264 d_Cd_usable_53 d_Cd_usable_56 d_Cd_usable_57 d_Cd_usable_60 d_Cd_usable_63 rfl (Nat.le_of_ble_eq_true rfl) (Nat.le_of_ble_eq_true rfl) (Nat.le_of_ble_eq_true rfl) (Nat.le_of_ble_eq_true rfl) (Nat.le_of_ble_eq_true rfl) (Nat.le_of_ble_eq_true rfl) ?_
        exact e
    · have e := h4 j i c hj rfl hi rfl he hs hc (by simp [cd_b_ne.mp c30])
      refine g_throwW (E := 2) O hst ew_2 (by decide +kernel) kl_Cd_32 ia_IllegalStateException in_IllegalStateException ml_Cd_36 ss_Cd_262 d_Cd_usable_33 d_Cd_usable_36 d_Cd_usable_37 d_Cd_usable_40 d_Cd_usable_43 rfl (Nat.le_of_ble_eq_true rfl) (Nat.le_of_ble_eq_true rfl) (Nat.le_of_ble_eq_true rfl) (Nat.le_of_ble_eq_true rfl) (Nat.le_of_ble_eq_true rfl) (Nat.le_of_ble_eq_true rfl) ?_
      exact e
set_option maxHeartbeats 4000000 in
set_option maxRecDepth 100000 in
theorem ct_Ca_spendOneUse {G : cd_Gl} {l : Launch} {w : cd_Wd} {Q : cd_Out → cd_Wd → Prop} {x : Nat} {A : cd_A} {σ : cd_S} (hR : cd_Rep w x A σ) {c : Nat} (hc : c < sC σ) (h : ∀ w', cd_Rep w' x A (spendL σ (anc σ c)) → cd_Fr w w' (cd_ow x A σ) → Q (.inl none) w') : cd_Ct G l y_Ca_spendOneUse 0 0 0 [.ref (A 8 c 0 0)] w Q := by
  refine cd_ofW cw_Ca_spendOneUse (by simp [Value.category, cat_rf]) (Nat.le_of_ble_eq_true rfl) fun C O => ?_
  change cd_Go G l C _ 0 0 w 0 [some (.ref (A 8 c 0 0)), none] []
  have loop : ∀ (n : Nat) (w : cd_Wd) (σ : cd_S), cd_Rep w x A σ → ∀ c, c < n → c < sC σ → (∀ w', cd_Rep w' x A (spendL σ (anc σ c)) → cd_Fr w w' (cd_ow x A σ) → Q (.inl none) w') → ∀ a0, cd_Go G l C (cd_MQ G (cx_s C) (cx_b C) 0 0 Q) 0 0 w 2 [some (.ref a0), some (.ref (A 8 c 0 0))] [] := by
    intro n
    induction n with
    | zero => intro w σ hR c h; omega
    | succ n ih =>
      intro w σ hR c hn hc h a0
      have hpar : ∀ c, c < sC σ → ∀ q, kP σ c = some q → q < c := fun c hc => (hR.wf.2.2.2 c hc).2.2
      rw [anc_eq hpar hc] at h
      have tail : ∀ w1, cd_Rep w1 x A (spend1 σ c) → cd_Fr w w1 (cd_ow x A σ) → cd_Go G l C (cd_MQ G (cx_s C) (cx_b C) 0 0 Q) 0 0 w1 23 [some (.ref a0), some (.ref (A 8 c 0 0))] [] := by
        intro w1 hR1 hF1
        obtain ⟨z1, z2, z3, -⟩ := spend1_D σ c
        have hc1 : c < sC (spend1 σ c) := by rw [z2]; exact hc
        have q := (hR1.c hc1).2.2.2.2.1
        rw [z3 c] at q
        refine g_aload_n O 1 d_Ca_spendOneUse_23 rfl rfl ?_
        cases hp : kP σ c with
        | none =>
          rw [hp] at h q
          refine g_getOV O c_Ca 2 (by decide) rfl (hR1.c hc1).2.1 lk_Ca_17 d_Ca_spendOneUse_24 (show cd_O w1 (32 * 4 + 2) (A 8 c 0 0) 0 = none from q) ?_
          first | refine g_astore_n O 1 d_Ca_spendOneUse_27 rfl (Nat.le_of_ble_eq_true rfl) ?_ | refine g_astore_nq O 1 d_Ca_spendOneUse_27 rfl (Nat.le_of_ble_eq_true rfl) ?_
          refine g_goto O 2 d_Ca_spendOneUse_28 (by decide) ?_
          first | refine g_aload_n O 1 d_Ca_spendOneUse_2 rfl rfl ?_ | refine g_aload_nq O 1 d_Ca_spendOneUse_2 rfl rfl ?_
          refine g_ifnullN O 31 d_Ca_spendOneUse_3 (by decide) ?_
          refine g_ret O d_Ca_spendOneUse_31 (Nat.le_of_ble_eq_true rfl) (Nat.le_of_ble_eq_true rfl) ?_
          exact h w1 hR1 hF1
        | some p =>
          rw [hp] at h q
          have hpc := hpar c hc p hp
          refine g_getS O c_Ca 2 (by decide) rfl (hR1.c hc1).2.1 lk_Ca_17 d_Ca_spendOneUse_24 q ?_
          first | refine g_astore_n O 1 d_Ca_spendOneUse_27 rfl (Nat.le_of_ble_eq_true rfl) ?_ | refine g_astore_nq O 1 d_Ca_spendOneUse_27 rfl (Nat.le_of_ble_eq_true rfl) ?_
          refine g_goto O 2 d_Ca_spendOneUse_28 (by decide) ?_
          refine ih w1 (spend1 σ c) hR1 p (by omega) (by rw [z2]; omega) (fun w2 hR2 hF2 => ?_) a0
          rw [anc_cg z3] at hR2
          exact h w2 hR2 (hF1.tr (hF2.up fun b _ hb => by
            rcases hb with rfl | ⟨k1, d1, o1, f1, hv, rfl⟩
            · exact Or.inl rfl
            · exact Or.inr ⟨k1, d1, o1, f1, by simpa only [cd_va, z1, z2] using hv, rfl⟩))
      first | refine g_aload_n O 1 d_Ca_spendOneUse_2 rfl rfl ?_ | refine g_aload_nq O 1 d_Ca_spendOneUse_2 rfl rfl ?_
      refine g_ifnullS O d_Ca_spendOneUse_3 ?_
      first | refine g_aload_n O 1 d_Ca_spendOneUse_6 rfl rfl ?_ | refine g_aload_nq O 1 d_Ca_spendOneUse_6 rfl rfl ?_
      refine g_getV O c_Ca 4 (by decide) rfl (hR.c hc).2.1 lk_Ca_24 d_Ca_spendOneUse_7 (hR.c hc).2.2.2.2.2.2.1 ?_
      refine g_if_le O 23 d_Ca_spendOneUse_10 (by decide) (fun c10 => ?_) (fun c10 => ?_)
      · exact tail w (by unfold spend1; rw [if_neg (Int32.not_lt.mpr c10)]; exact hR) cd_Fr.rf
      · first | refine g_aload_n O 1 d_Ca_spendOneUse_13 rfl rfl ?_ | refine g_aload_nq O 1 d_Ca_spendOneUse_13 rfl rfl ?_
        refine g_dup O d_Ca_spendOneUse_14 (by first | rfl | exact cat_rf _) ?_
        refine g_getV O c_Ca 4 (by decide) rfl (hR.c hc).2.1 lk_Ca_24 d_Ca_spendOneUse_15 (hR.c hc).2.2.2.2.2.2.1 ?_
        refine g_iconst (v := 1) O d_Ca_spendOneUse_18 (by decide) ?_
        refine g_isub O d_Ca_spendOneUse_19 ?_
        refine g_putI O c_Ca 4 (by decide) rfl (hR.c hc).2.1 (Or.inl rfl) (Or.inl rfl) lk_Ca_24 d_Ca_spendOneUse_20 ?_
        exact tail _ (by unfold spend1; rw [if_pos (Int32.not_le.mp c10)]; exact rep_U hR hc _) (cd_Fr.wI (ow_at (k := 8) ⟨hc, rfl, rfl⟩))
  first | refine g_aload_n O 0 d_Ca_spendOneUse_0 rfl rfl ?_ | refine g_aload_nq O 0 d_Ca_spendOneUse_0 rfl rfl ?_
  first | refine g_astore_n O 1 d_Ca_spendOneUse_1 rfl (Nat.le_of_ble_eq_true rfl) ?_ | refine g_astore_nq O 1 d_Ca_spendOneUse_1 rfl (Nat.le_of_ble_eq_true rfl) ?_
  exact loop (c + 1) w σ hR c (by omega) hc h _
