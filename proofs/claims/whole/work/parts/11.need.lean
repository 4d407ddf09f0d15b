def isFd (σ : cd_S) (d o f : Int32) : Bool := isD σ d && hasO σ d.toNatClampNeg o && isFi f
theorem isFd_of {σ : cd_S} {d o f : Int32} (hs : sD σ ≤ 6) (h : isFd σ d o f = true) : ∃ j i k : Nat, j < sD σ ∧ d = nI j ∧ i < 12 ∧ o = nI i ∧ sT σ j i = true ∧ k < 3 ∧ f = nI k := by
  simp only [isFd, Bool.and_eq_true] at h
  obtain ⟨j, hj, rfl⟩ := isD_of hs h.1.1
  rw [nI_clamp (by omega)] at h
  obtain ⟨i, hi, rfl, ht⟩ := hasO_of h.1.2
  obtain ⟨k, hk, rfl⟩ := isFi_of h.2
  exact ⟨j, i, k, hj, rfl, hi, rfl, ht, hk, rfl⟩
set_option maxHeartbeats 4000000 in
set_option maxRecDepth 100000 in
theorem ct_Cd_isField {G : cd_Gl} {l : Launch} {w : cd_Wd} {Q : cd_Out → cd_Wd → Prop} {x : Nat} {A : cd_A} {σ : cd_S} (hR : cd_Rep w x A σ) {d o f : Int32} (h : Q (.inl (some (.int (cd_b (isFd σ d o f))))) w) : cd_Ct G l y_Cd_isField 1 0 0 [.ref x, .int d, .int o, .int f] w Q := by
  refine cd_ofW cw_Cd_isField (by simp [Value.category, cat_rf]) (Nat.le_of_ble_eq_true rfl) fun C O => ?_
  change cd_Go G l C _ 0 0 w 0 [some (.ref x), some (.int d), some (.int o), some (.int f)] []
  first | refine g_aload_n O 0 d_Cd_isField_0 rfl rfl ?_ | refine g_aload_nq O 0 d_Cd_isField_0 rfl rfl ?_
  refine g_iload_n O 1 d_Cd_isField_1 rfl rfl ?_
  refine g_callv (N := 0) (mc := 0) (ms := 0) (av := [_]) O (Or.inl ⟨_, _, cw_Cd_isDomain⟩) pl_Cd (ci := 0) (q := q_Cd) rfl hR.top.1 ml_Cd_221 im_Cd_isDomain se_Cd_isDomain rfl d_Cd_isField_2 rfl (Nat.le_of_ble_eq_true rfl) (Nat.le_of_ble_eq_true rfl) (Nat.le_of_ble_eq_true rfl) (Nat.le_of_ble_eq_true rfl) ?_
  refine ct_Cd_isDomain hR ?_
  change cd_Go _ _ _ _ _ _ _ _ _ _
  refine g_if_eq O 34 d_Cd_isField_5 (by decide) (fun c5 => ?_) (fun c5 => ?_)
  · rw [show isFd σ d o f = false from by simp [isFd, cd_b_eq.mp c5]] at h
    refine g_iconst (v := 0) O d_Cd_isField_34 (by decide) ?_
    refine g_zret O d_Cd_isField_35 (by first | exact Or.inl rfl | exact Or.inr rfl | assumption) (Nat.le_of_ble_eq_true rfl) (Nat.le_of_ble_eq_true rfl) ?_
    exact h
  · obtain ⟨j, hj, rfl⟩ := isD_of hR.top.2.2.2.2.2.2.2.2.2.2.2.2.2.2.2.2.2.2.2.1 (cd_b_ne.mp c5)
    have hcl : (nI j).toNatClampNeg = j := nI_clamp (by have := hR.top.2.2.2.2.2.2.2.2.2.2.2.2.2.2.2.2.2.2.2.1; omega)
    first | refine g_aload_n O 0 d_Cd_isField_8 rfl rfl ?_ | refine g_aload_nq O 0 d_Cd_isField_8 rfl rfl ?_
    refine g_getS O c_Cd 0 (by decide) rfl hR.top.1 lk_Cd_11 d_Cd_isField_9 hR.top.2.1 ?_
    refine g_iload_n O 1 d_Cd_isField_12 rfl rfl ?_
    refine g_aaldS O 3 rfl rfl hR.top.2.2.1 (by rw [hR.top.2.2.2.1]; exact ix_in (Nat.lt_of_lt_of_le hj hR.top.2.2.2.2.2.2.2.2.2.2.2.2.2.2.2.2.2.2.2.1) (by omega)) d_Cd_isField_13 (by rw [hcl]; exact (hR.d hj).1) ?_
    refine g_iload_n O 2 d_Cd_isField_14 rfl rfl ?_
    refine g_callv (N := 0) (mc := 0) (ms := 0) (av := [_]) O (Or.inl ⟨_, _, cw_Do_hasObject⟩) pl_Do (ci := 1) (q := q_Do) rfl (hR.d hj).2.1 ml_Cd_69 im_Do_hasObject se_Do_hasObject rfl d_Cd_isField_15 rfl (Nat.le_of_ble_eq_true rfl) (Nat.le_of_ble_eq_true rfl) (Nat.le_of_ble_eq_true rfl) (Nat.le_of_ble_eq_true rfl) ?_
    refine ct_Do_hasObject hR hj ?_
    change cd_Go _ _ _ _ _ _ _ _ _ _
    refine g_if_eq O 34 d_Cd_isField_18 (by decide) (fun c18 => ?_) (fun c18 => ?_)
    · rw [show isFd σ (nI j) o f = false from by simp [isFd, hcl, cd_b_eq.mp c18]] at h
      refine g_iconst (v := 0) O d_Cd_isField_34 (by decide) ?_
      refine g_zret O d_Cd_isField_35 (by first | exact Or.inl rfl | exact Or.inr rfl | assumption) (Nat.le_of_ble_eq_true rfl) (Nat.le_of_ble_eq_true rfl) ?_
      exact h
    · refine g_iload_n O 3 d_Cd_isField_21 rfl rfl ?_
      refine g_if_lt O 34 d_Cd_isField_22 (by decide) (fun c22 => ?_) (fun c22 => ?_)
      · rw [show isFd σ (nI j) o f = false from by simp [isFd, isFi, c22]] at h
        refine g_iconst (v := 0) O d_Cd_isField_34 (by decide) ?_
        refine g_zret O d_Cd_isField_35 (by first | exact Or.inl rfl | exact Or.inr rfl | assumption) (Nat.le_of_ble_eq_true rfl) (Nat.le_of_ble_eq_true rfl) ?_
        exact h
      · refine g_iload_n O 3 d_Cd_isField_25 rfl rfl ?_
        refine g_iconst (v := 3) O d_Cd_isField_26 (by decide) ?_
        refine g_icmp_ge O 34 d_Cd_isField_27 (by decide) (fun c27 => ?_) (fun c27 => ?_)
        · rw [show isFd σ (nI j) o f = false from by simp [isFd, isFi, c27]] at h
          refine g_iconst (v := 0) O d_Cd_isField_34 (by decide) ?_
          refine g_zret O d_Cd_isField_35 (by first | exact Or.inl rfl | exact Or.inr rfl | assumption) (Nat.le_of_ble_eq_true rfl) (Nat.le_of_ble_eq_true rfl) ?_
          exact h
        · rw [show isFd σ (nI j) o f = true from by simp [isFd, isFi, c27, c22, hcl, cd_b_ne.mp c18, cd_b_ne.mp c5]] at h
          refine g_iconst (v := 1) O d_Cd_isField_30 (by decide) ?_
          refine g_goto O 35 d_Cd_isField_31 (by decide) ?_
          refine g_zret O d_Cd_isField_35 (by first | exact Or.inl rfl | exact Or.inr rfl | assumption) (Nat.le_of_ble_eq_true rfl) (Nat.le_of_ble_eq_true rfl) ?_
          exact h
set_option maxHeartbeats 4000000 in
set_option maxRecDepth 100000 in
theorem ct_Cd_requireSlot {G : cd_Gl} {l : Launch} {w : cd_Wd} {Q : cd_Out → cd_Wd → Prop} (hst : l.stackTraces = false) {x : Nat} {A : cd_A} {σ : cd_S} (hR : cd_Rep w x A σ) {d s : Int32} (h1 : (isD σ d && isSl s) = false → Q (.inr 1) w) (h2 : isD σ d = true → isSl s = true → Q (.inl none) w) : cd_Ct G l y_Cd_requireSlot 6 1 6 [.ref x, .int d, .int s] w Q := by
  refine cd_ofW cw_Cd_requireSlot (by simp [Value.category, cat_rf]) (Nat.le_of_ble_eq_true rfl) fun C O => ?_
  change cd_Go G l C _ 0 0 w 0 [some (.ref x), some (.int d), some (.int s)] []
  first | refine g_aload_n O 0 d_Cd_requireSlot_0 rfl rfl ?_ | refine g_aload_nq O 0 d_Cd_requireSlot_0 rfl rfl ?_
  refine g_iload_n O 1 d_Cd_requireSlot_1 rfl rfl ?_
  refine g_callv (N := 0) (mc := 0) (ms := 0) (av := [_]) O (Or.inl ⟨_, _, cw_Cd_isDomain⟩) pl_Cd (ci := 0) (q := q_Cd) rfl hR.top.1 ml_Cd_221 im_Cd_isDomain se_Cd_isDomain rfl d_Cd_requireSlot_2 rfl (Nat.le_of_ble_eq_true rfl) (Nat.le_of_ble_eq_true rfl) (Nat.le_of_ble_eq_true rfl) (Nat.le_of_ble_eq_true rfl) ?_
  refine ct_Cd_isDomain hR ?_
  change cd_Go _ _ _ _ _ _ _ _ _ _
  refine g_if_eq O 15 d_Cd_requireSlot_5 (by decide) (fun c5 => ?_) (fun c5 => ?_)
  · have e := h1 (by simp [cd_b_eq.mp c5])
    refine g_throw (E := 1) O hst ew_1 (by decide +kernel) kl_Cd_242 ia_IllegalArgumentException in_IllegalArgumentException ml_Cd_246 ss_Cd_244 d_Cd_requireSlot_15 d_Cd_requireSlot_18 d_Cd_requireSlot_19 d_Cd_requireSlot_21 d_Cd_requireSlot_24 rfl (Nat.le_of_ble_eq_true rfl) (Nat.le_of_ble_eq_true rfl) (Nat.le_of_ble_eq_true rfl) (Nat.le_of_ble_eq_true rfl) (Nat.le_of_ble_eq_true rfl) (Nat.le_of_ble_eq_true rfl) ?_
    exact e
  · refine g_iload_n O 2 d_Cd_requireSlot_8 rfl rfl ?_
    refine g_calls (N := 0) (mc := 0) (ms := 0) (av := [_]) O (Or.inl ⟨_, _, cw_Cd_isSlot⟩) pl_Cd ml_Cd_81 st_Cd_isSlot in_Cd rfl d_Cd_requireSlot_9 rfl (Nat.le_of_ble_eq_true rfl) (Nat.le_of_ble_eq_true rfl) (Nat.le_of_ble_eq_true rfl) (Nat.le_of_ble_eq_true rfl) ?_
    refine ct_Cd_isSlot ?_
    change cd_Go _ _ _ _ _ _ _ _ _ _
    refine g_if_ne O 25 d_Cd_requireSlot_12 (by decide) (fun c12 => ?_) (fun c12 => ?_)
    · have e := h2 (cd_b_ne.mp c5) (cd_b_ne.mp c12)
      refine g_ret O d_Cd_requireSlot_25 (Nat.le_of_ble_eq_true rfl) (Nat.le_of_ble_eq_true rfl) ?_
      exact e
    · have e := h1 (by simp [cd_b_eq.mp c12])
      refine g_throw (E := 1) O hst ew_1 (by decide +kernel) kl_Cd_242 ia_IllegalArgumentException in_IllegalArgumentException ml_Cd_246 ss_Cd_244 d_Cd_requireSlot_15 d_Cd_requireSlot_18 d_Cd_requireSlot_19 d_Cd_requireSlot_21 d_Cd_requireSlot_24 rfl (Nat.le_of_ble_eq_true rfl) (Nat.le_of_ble_eq_true rfl) (Nat.le_of_ble_eq_true rfl) (Nat.le_of_ble_eq_true rfl) (Nat.le_of_ble_eq_true rfl) (Nat.le_of_ble_eq_true rfl) ?_
      exact e
def isGr (r u : Int32) : Bool := decide (¬ r < 0) && decide (¬ (31 : Int32) < r) && decide ((-1 : Int32) ≤ u)
set_option maxHeartbeats 4000000 in
set_option maxRecDepth 100000 in
theorem ct_Cd_requireGrant {G : cd_Gl} {l : Launch} {w : cd_Wd} {Q : cd_Out → cd_Wd → Prop} (hst : l.stackTraces = false) {r u : Int32} (h1 : isGr r u = false → Q (.inr 1) w) (h2 : isGr r u = true → Q (.inl none) w) : cd_Ct G l y_Cd_requireGrant 6 1 6 [.int r, .int u] w Q := by
  refine cd_ofW cw_Cd_requireGrant (by simp [Value.category, cat_rf]) (Nat.le_of_ble_eq_true rfl) fun C O => ?_
  change cd_Go G l C _ 0 0 w 0 [some (.int r), some (.int u)] []
  refine g_iload_n O 0 d_Cd_requireGrant_0 rfl rfl ?_
  refine g_if_lt O 15 d_Cd_requireGrant_1 (by decide) (fun c1 => ?_) (fun c1 => ?_)
  · have e := h1 (by simp [isGr, c1])
    refine g_throw (E := 1) O hst ew_1 (by decide +kernel) kl_Cd_242 ia_IllegalArgumentException in_IllegalArgumentException ml_Cd_246 ss_Cd_247 d_Cd_requireGrant_15 d_Cd_requireGrant_18 d_Cd_requireGrant_19 d_Cd_requireGrant_21 d_Cd_requireGrant_24 rfl (Nat.le_of_ble_eq_true rfl) (Nat.le_of_ble_eq_true rfl) (Nat.le_of_ble_eq_true rfl) (Nat.le_of_ble_eq_true rfl) (Nat.le_of_ble_eq_true rfl) (Nat.le_of_ble_eq_true rfl) ?_
    exact e
  · refine g_iload_n O 0 d_Cd_requireGrant_4 rfl rfl ?_
    refine g_bipush (v := 31) O d_Cd_requireGrant_5 (by decide) ?_
    refine g_icmp_gt O 15 d_Cd_requireGrant_7 (by decide) (fun c7 => ?_) (fun c7 => ?_)
    · have e := h1 (by simp [isGr, c7])
      refine g_throw (E := 1) O hst ew_1 (by decide +kernel) kl_Cd_242 ia_IllegalArgumentException in_IllegalArgumentException ml_Cd_246 ss_Cd_247 d_Cd_requireGrant_15 d_Cd_requireGrant_18 d_Cd_requireGrant_19 d_Cd_requireGrant_21 d_Cd_requireGrant_24 rfl (Nat.le_of_ble_eq_true rfl) (Nat.le_of_ble_eq_true rfl) (Nat.le_of_ble_eq_true rfl) (Nat.le_of_ble_eq_true rfl) (Nat.le_of_ble_eq_true rfl) (Nat.le_of_ble_eq_true rfl) ?_
      exact e
    · refine g_iload_n O 1 d_Cd_requireGrant_10 rfl rfl ?_
      refine g_iconst (v := -1) O d_Cd_requireGrant_11 (by decide) ?_
      refine g_icmp_ge O 25 d_Cd_requireGrant_12 (by decide) (fun c12 => ?_) (fun c12 => ?_)
      · have e := h2 (by simp [isGr, c1, c7, c12])
        refine g_ret O d_Cd_requireGrant_25 (Nat.le_of_ble_eq_true rfl) (Nat.le_of_ble_eq_true rfl) ?_
        exact e
      · have e := h1 (by simp [isGr, c12])
        refine g_throw (E := 1) O hst ew_1 (by decide +kernel) kl_Cd_242 ia_IllegalArgumentException in_IllegalArgumentException ml_Cd_246 ss_Cd_247 d_Cd_requireGrant_15 d_Cd_requireGrant_18 d_Cd_requireGrant_19 d_Cd_requireGrant_21 d_Cd_requireGrant_24 rfl (Nat.le_of_ble_eq_true rfl) (Nat.le_of_ble_eq_true rfl) (Nat.le_of_ble_eq_true rfl) (Nat.le_of_ble_eq_true rfl) (Nat.le_of_ble_eq_true rfl) (Nat.le_of_ble_eq_true rfl) ?_
        exact e
set_option maxHeartbeats 4000000 in
set_option maxRecDepth 100000 in
theorem ct_Cd_requireCapabilityLeft {G : cd_Gl} {l : Launch} {w : cd_Wd} {Q : cd_Out → cd_Wd → Prop} (hst : l.stackTraces = false) {x : Nat} {A : cd_A} {σ : cd_S} (hR : cd_Rep w x A σ) (h1 : 40 ≤ sC σ → Q (.inr 6) w) (h2 : sC σ < 40 → Q (.inl none) w) : cd_Ct G l y_Cd_requireCapabilityLeft 6 1 6 [.ref x] w Q := by
  refine cd_ofW cw_Cd_requireCapabilityLeft (by simp [Value.category, cat_rf]) (Nat.le_of_ble_eq_true rfl) fun C O => ?_
  change cd_Go G l C _ 0 0 w 0 [some (.ref x)] []
  first | refine g_aload_n O 0 d_Cd_requireCapabilityLeft_0 rfl rfl ?_ | refine g_aload_nq O 0 d_Cd_requireCapabilityLeft_0 rfl rfl ?_
  refine g_getV O c_Cd 3 (by decide) rfl hR.top.1 lk_Cd_233 d_Cd_requireCapabilityLeft_1 hR.top.2.2.2.2.2.2.2.2.2.2.2.2.2.2.2.2.2.2.2.2.1 ?_
  refine g_bipush (v := 40) O d_Cd_requireCapabilityLeft_4 (by decide) ?_
  refine g_icmp_lt O 19 d_Cd_requireCapabilityLeft_6 (by decide) (fun c6 => ?_) (fun c6 => ?_)
  · have e := h2 ((nI_ltI (b := 40) (by have := hR.top.2.2.2.2.2.2.2.2.2.2.2.2.2.2.2.2.2.2.2.2.2; omega) (by omega)).mp c6)
    refine g_ret O d_Cd_requireCapabilityLeft_19 (Nat.le_of_ble_eq_true rfl) (Nat.le_of_ble_eq_true rfl) ?_
    exact e
  · have e := h1 (Nat.le_of_not_lt fun z => c6 (nI_lt (b := 40) z (by omega)))
    refine g_throw (E := 6) O hst ew_6 (by decide +kernel) kl_Cd_48 ia_ArithmeticException in_ArithmeticException ml_Cd_52 ss_Cd_249 d_Cd_requireCapabilityLeft_9 d_Cd_requireCapabilityLeft_12 d_Cd_requireCapabilityLeft_13 d_Cd_requireCapabilityLeft_15 d_Cd_requireCapabilityLeft_18 rfl (Nat.le_of_ble_eq_true rfl) (Nat.le_of_ble_eq_true rfl) (Nat.le_of_ble_eq_true rfl) (Nat.le_of_ble_eq_true rfl) (Nat.le_of_ble_eq_true rfl) (Nat.le_of_ble_eq_true rfl) ?_
    exact e
set_option maxHeartbeats 4000000 in
set_option maxRecDepth 100000 in
theorem ct_Cd_livingDomain {G : cd_Gl} {l : Launch} {w : cd_Wd} {Q : cd_Out → cd_Wd → Prop} (hst : l.stackTraces = false) {x : Nat} {A : cd_A} {σ : cd_S} (hR : cd_Rep w x A σ) {d : Int32} (h1 : isD σ d = false → Q (.inr 1) w) (h2 : ∀ j, j < sD σ → d = nI j → sE σ j = true → Q (.inr 2) w) (h3 : ∀ j, j < sD σ → d = nI j → sE σ j = false → Q (.inl (some (.ref (A 1 j 0 0)))) w) : cd_Ct G l y_Cd_livingDomain 6 1 6 [.ref x, .int d] w Q := by
  refine cd_ofW cw_Cd_livingDomain (by simp [Value.category, cat_rf]) (Nat.le_of_ble_eq_true rfl) fun C O => ?_
  change cd_Go G l C _ 0 0 w 0 [some (.ref x), some (.int d)] []
  first | refine g_aload_n O 0 d_Cd_livingDomain_0 rfl rfl ?_ | refine g_aload_nq O 0 d_Cd_livingDomain_0 rfl rfl ?_
  refine g_iload_n O 1 d_Cd_livingDomain_1 rfl rfl ?_
  refine g_callv (N := 0) (mc := 0) (ms := 0) (av := [_]) O (Or.inl ⟨_, _, cw_Cd_isDomain⟩) pl_Cd (ci := 0) (q := q_Cd) rfl hR.top.1 ml_Cd_221 im_Cd_isDomain se_Cd_isDomain rfl d_Cd_livingDomain_2 rfl (Nat.le_of_ble_eq_true rfl) (Nat.le_of_ble_eq_true rfl) (Nat.le_of_ble_eq_true rfl) (Nat.le_of_ble_eq_true rfl) ?_
  refine ct_Cd_isDomain hR ?_
  change cd_Go _ _ _ _ _ _ _ _ _ _
  refine g_if_ne O 18 d_Cd_livingDomain_5 (by decide) (fun c5 => ?_) (fun c5 => ?_)
  · obtain ⟨j, hj, rfl⟩ := isD_of hR.top.2.2.2.2.2.2.2.2.2.2.2.2.2.2.2.2.2.2.2.1 (cd_b_ne.mp c5)
    have hcl : (nI j).toNatClampNeg = j := nI_clamp (by have := hR.top.2.2.2.2.2.2.2.2.2.2.2.2.2.2.2.2.2.2.2.1; omega)
    first | refine g_aload_n O 0 d_Cd_livingDomain_18 rfl rfl ?_ | refine g_aload_nq O 0 d_Cd_livingDomain_18 rfl rfl ?_
    refine g_getS O c_Cd 0 (by decide) rfl hR.top.1 lk_Cd_11 d_Cd_livingDomain_19 hR.top.2.1 ?_
    refine g_iload_n O 1 d_Cd_livingDomain_22 rfl rfl ?_
    refine g_aaldS O 3 rfl rfl hR.top.2.2.1 (by rw [hR.top.2.2.2.1]; exact ix_in (Nat.lt_of_lt_of_le hj hR.top.2.2.2.2.2.2.2.2.2.2.2.2.2.2.2.2.2.2.2.1) (by omega)) d_Cd_livingDomain_23 (by rw [hcl]; exact (hR.d hj).1) ?_
    refine g_getV O c_Do 0 (by decide) rfl (hR.d hj).2.1 lk_Cd_224 d_Cd_livingDomain_24 (hR.d hj).2.2.2.2.2.2.2.2 ?_
    refine g_if_eq O 40 d_Cd_livingDomain_27 (by decide) (fun c27 => ?_) (fun c27 => ?_)
    · have e := h3 j hj rfl (cd_b_eq.mp c27)
      first | refine g_aload_n O 0 d_Cd_livingDomain_40 rfl rfl ?_ | refine g_aload_nq O 0 d_Cd_livingDomain_40 rfl rfl ?_
      refine g_getS O c_Cd 0 (by decide) rfl hR.top.1 lk_Cd_11 d_Cd_livingDomain_41 hR.top.2.1 ?_
      refine g_iload_n O 1 d_Cd_livingDomain_44 rfl rfl ?_
      refine g_aaldS O 3 rfl rfl hR.top.2.2.1 (by rw [hR.top.2.2.2.1]; exact ix_in (Nat.lt_of_lt_of_le hj hR.top.2.2.2.2.2.2.2.2.2.2.2.2.2.2.2.2.2.2.2.1) (by omega)) d_Cd_livingDomain_45 (by rw [hcl]; exact (hR.d hj).1) ?_
      first | refine g_aretS O d_Cd_livingDomain_46 (Nat.le_of_ble_eq_true rfl) (Nat.le_of_ble_eq_true rfl) ?_ | refine g_aretN O d_Cd_livingDomain_46 (Nat.le_of_ble_eq_true rfl) (Nat.le_of_ble_eq_true rfl) ?_
      exact e
    · have e := h2 j hj rfl (cd_b_ne.mp c27)
      refine g_throw (E := 2) O hst ew_2 (by decide +kernel) kl_Cd_32 ia_IllegalStateException in_IllegalStateException ml_Cd_36 ss_Cd_253 d_Cd_livingDomain_30 d_Cd_livingDomain_33 d_Cd_livingDomain_34 d_Cd_livingDomain_36 d_Cd_livingDomain_39 rfl (Nat.le_of_ble_eq_true rfl) (Nat.le_of_ble_eq_true rfl) (Nat.le_of_ble_eq_true rfl) (Nat.le_of_ble_eq_true rfl) (Nat.le_of_ble_eq_true rfl) (Nat.le_of_ble_eq_true rfl) ?_
      exact e
  · have e := h1 (cd_b_eq.mp c5)
    refine g_throw (E := 1) O hst ew_1 (by decide +kernel) kl_Cd_242 ia_IllegalArgumentException in_IllegalArgumentException ml_Cd_246 ss_Cd_251 d_Cd_livingDomain_8 d_Cd_livingDomain_11 d_Cd_livingDomain_12 d_Cd_livingDomain_14 d_Cd_livingDomain_17 rfl (Nat.le_of_ble_eq_true rfl) (Nat.le_of_ble_eq_true rfl) (Nat.le_of_ble_eq_true rfl) (Nat.le_of_ble_eq_true rfl) (Nat.le_of_ble_eq_true rfl) (Nat.le_of_ble_eq_true rfl) ?_
    exact e
set_option maxHeartbeats 4000000 in
set_option maxRecDepth 100000 in
theorem ct_Cd_fieldOf {G : cd_Gl} {l : Launch} {w : cd_Wd} {Q : cd_Out → cd_Wd → Prop} (hst : l.stackTraces = false) {x : Nat} {A : cd_A} {σ : cd_S} (hR : cd_Rep w x A σ) {d : Nat} {o f : Int32} (hd : d < sD σ) (h1 : hasO σ d o = false → Q (.inr 3) w) (h2 : ∀ j, j < 12 → o = nI j → sT σ d j = true → isFi f = false → Q (.inr 5) w) (h3 : ∀ j i, j < 12 → o = nI j → sT σ d j = true → i < 3 → f = nI i → Q (.inl (some (.ref (A 6 d j i)))) w) : cd_Ct G l y_Cd_fieldOf 6 1 6 [.ref (A 1 d 0 0), .int o, .int f] w Q := by
  refine cd_ofW cw_Cd_fieldOf (by simp [Value.category, cat_rf]) (Nat.le_of_ble_eq_true rfl) fun C O => ?_
  change cd_Go G l C _ 0 0 w 0 [some (.ref (A 1 d 0 0)), some (.int o), some (.int f)] []
  first | refine g_aload_n O 0 d_Cd_fieldOf_0 rfl rfl ?_ | refine g_aload_nq O 0 d_Cd_fieldOf_0 rfl rfl ?_
  refine g_iload_n O 1 d_Cd_fieldOf_1 rfl rfl ?_
  refine g_callv (N := 0) (mc := 0) (ms := 0) (av := [_]) O (Or.inl ⟨_, _, cw_Do_hasObject⟩) pl_Do (ci := 1) (q := q_Do) rfl (hR.d hd).2.1 ml_Cd_69 im_Do_hasObject se_Do_hasObject rfl d_Cd_fieldOf_2 rfl (Nat.le_of_ble_eq_true rfl) (Nat.le_of_ble_eq_true rfl) (Nat.le_of_ble_eq_true rfl) (Nat.le_of_ble_eq_true rfl) ?_
  refine ct_Do_hasObject hR hd ?_
  change cd_Go _ _ _ _ _ _ _ _ _ _
  refine g_if_ne O 18 d_Cd_fieldOf_5 (by decide) (fun c5 => ?_) (fun c5 => ?_)
  · obtain ⟨j, hj, rfl, ht⟩ := hasO_of (cd_b_ne.mp c5)
    have hcl : (nI j).toNatClampNeg = j := nI_clamp (by omega)
    refine g_iload_n O 2 d_Cd_fieldOf_18 rfl rfl ?_
    refine g_if_lt O 27 d_Cd_fieldOf_19 (by decide) (fun c19 => ?_) (fun c19 => ?_)
    · have e := h2 j hj rfl ht (by simp [isFi, c19])
      refine g_throw (E := 5) O hst ew_5 (by decide +kernel) kl_Cd_84 ia_IndexOutOfBoundsException in_IndexOutOfBoundsException ml_Cd_88 ss_Cd_255 d_Cd_fieldOf_27 d_Cd_fieldOf_30 d_Cd_fieldOf_31 d_Cd_fieldOf_33 d_Cd_fieldOf_36 rfl (Nat.le_of_ble_eq_true rfl) (Nat.le_of_ble_eq_true rfl) (Nat.le_of_ble_eq_true rfl) (Nat.le_of_ble_eq_true rfl) (Nat.le_of_ble_eq_true rfl) (Nat.le_of_ble_eq_true rfl) ?_
      exact e
    · refine g_iload_n O 2 d_Cd_fieldOf_22 rfl rfl ?_
      refine g_iconst (v := 3) O d_Cd_fieldOf_23 (by decide) ?_
      refine g_icmp_lt O 37 d_Cd_fieldOf_24 (by decide) (fun c24 => ?_) (fun c24 => ?_)
      · obtain ⟨i, hi, rfl⟩ := isFi_of (d := f) (by simp [isFi, c19]; exact c24)
        have hcl2 : (nI i).toNatClampNeg = i := nI_clamp (by omega)
        have e := h3 j i hj rfl ht hi rfl
        first | refine g_aload_n O 0 d_Cd_fieldOf_37 rfl rfl ?_ | refine g_aload_nq O 0 d_Cd_fieldOf_37 rfl rfl ?_
        refine g_getS O c_Do 1 (by decide) rfl (hR.d hd).2.1 lk_Cd_205 d_Cd_fieldOf_38 (hR.d hd).2.2.1 ?_
        refine g_iload_n O 1 d_Cd_fieldOf_41 rfl rfl ?_
        refine g_aaldS O 4 rfl rfl (hR.d hd).2.2.2.1 (by rw [(hR.d hd).2.2.2.2.1]; exact ix_in hj (by omega)) d_Cd_fieldOf_42 (by rw [hcl]; exact (hR.o hd hj).1) ?_
        refine g_getS O c_Ob 1 (by decide) rfl (hR.o hd hj).2.1 lk_Cd_209 d_Cd_fieldOf_43 (hR.o hd hj).2.2.2.1 ?_
        refine g_iload_n O 2 d_Cd_fieldOf_46 rfl rfl ?_
        refine g_aaldS O 5 rfl rfl (hR.o hd hj).2.2.2.2.1 (by rw [(hR.o hd hj).2.2.2.2.2]; exact ix_in hi (by omega)) d_Cd_fieldOf_47 (by rw [hcl2]; exact (hR.f hd hj hi).1) ?_
        first | refine g_aretS O d_Cd_fieldOf_48 (Nat.le_of_ble_eq_true rfl) (Nat.le_of_ble_eq_true rfl) ?_ | refine g_aretN O d_Cd_fieldOf_48 (Nat.le_of_ble_eq_true rfl) (Nat.le_of_ble_eq_true rfl) ?_
        exact e
      · have e := h2 j hj rfl ht (by simp [isFi]; intro _; exact Int32.not_lt.mp c24)
        refine g_throw (E := 5) O hst ew_5 (by decide +kernel) kl_Cd_84 ia_IndexOutOfBoundsException in_IndexOutOfBoundsException ml_Cd_88 ss_Cd_255 d_Cd_fieldOf_27 d_Cd_fieldOf_30 d_Cd_fieldOf_31 d_Cd_fieldOf_33 d_Cd_fieldOf_36 rfl (Nat.le_of_ble_eq_true rfl) (Nat.le_of_ble_eq_true rfl) (Nat.le_of_ble_eq_true rfl) (Nat.le_of_ble_eq_true rfl) (Nat.le_of_ble_eq_true rfl) (Nat.le_of_ble_eq_true rfl) ?_
        exact e
  · have e := h1 (cd_b_eq.mp c5)
    refine g_throw (E := 3) O hst ew_3 (by decide +kernel) kl_Cd_73 ia_NoSuchElementException in_NoSuchElementException ml_Cd_77 ss_Cd_104 d_Cd_fieldOf_8 d_Cd_fieldOf_11 d_Cd_fieldOf_12 d_Cd_fieldOf_14 d_Cd_fieldOf_17 rfl (Nat.le_of_ble_eq_true rfl) (Nat.le_of_ble_eq_true rfl) (Nat.le_of_ble_eq_true rfl) (Nat.le_of_ble_eq_true rfl) (Nat.le_of_ble_eq_true rfl) (Nat.le_of_ble_eq_true rfl) ?_
    exact e
set_option maxHeartbeats 4000000 in
set_option maxRecDepth 100000 in
theorem ct_Cd_capabilityIn {G : cd_Gl} {l : Launch} {w : cd_Wd} {Q : cd_Out → cd_Wd → Prop} (hst : l.stackTraces = false) {x : Nat} {A : cd_A} {σ : cd_S} (hR : cd_Rep w x A σ) {d i : Nat} (hd : d < sD σ) (hi : i < 8) (h1 : sS σ d i = none → Q (.inr 3) w) (h2 : ∀ c, sS σ d i = some c → c < sC σ → Q (.inl (some (.ref (A 8 c 0 0)))) w) : cd_Ct G l y_Cd_capabilityIn 6 1 6 [.ref (A 1 d 0 0), .int (nI i)] w Q := by
  refine cd_ofW cw_Cd_capabilityIn (by simp [Value.category, cat_rf]) (Nat.le_of_ble_eq_true rfl) fun C O => ?_
  change cd_Go G l C _ 0 0 w 0 [some (.ref (A 1 d 0 0)), some (.int (nI i)), none] []
  first | refine g_aload_n O 0 d_Cd_capabilityIn_0 rfl rfl ?_ | refine g_aload_nq O 0 d_Cd_capabilityIn_0 rfl rfl ?_
  refine g_getS O c_Do 2 (by decide) rfl (hR.d hd).2.1 lk_Cd_227 d_Cd_capabilityIn_1 (hR.d hd).2.2.2.2.2.1 ?_
  refine g_iload_n O 1 d_Cd_capabilityIn_4 rfl rfl ?_
  refine g_aaldV O 6 rfl rfl (hR.d hd).2.2.2.2.2.2.1 (by rw [(hR.d hd).2.2.2.2.2.2.2.1]; exact ix_in hi (by omega)) d_Cd_capabilityIn_5 (show cd_O w (1000 + 6) (A 3 d 0 0) (nI i).toNatClampNeg = (sS σ d i).map (fun c => A 8 c 0 0) from by rw [nI_clamp (by omega)]; exact hR.s hd hi) ?_
  first | refine g_astore_n O 2 d_Cd_capabilityIn_6 rfl (Nat.le_of_ble_eq_true rfl) ?_ | refine g_astore_nq O 2 d_Cd_capabilityIn_6 rfl (Nat.le_of_ble_eq_true rfl) ?_
  first | refine g_aload_n O 2 d_Cd_capabilityIn_7 rfl rfl ?_ | refine g_aload_nq O 2 d_Cd_capabilityIn_7 rfl rfl ?_
  refine g_ifnonnull O 22 d_Cd_capabilityIn_8 (by decide) (fun x8 c8 => ?_) (fun c8 => ?_)
  · obtain ⟨c, hc⟩ : ∃ c, sS σ d i = some c := by cases hz : sS σ d i with
      | none => rw [hz] at c8; cases c8
      | some c => exact ⟨c, rfl⟩
    have e := h2 c hc (hR.wf.1 d i c hd hi hc)
    rw [hc]
    change cd_Go G l C _ _ _ _ _ [some (.ref (A 1 d 0 0)), some (.int (nI i)), some (.ref (A 8 c 0 0))] []
    first | refine g_aload_n O 2 d_Cd_capabilityIn_22 rfl rfl ?_ | refine g_aload_nq O 2 d_Cd_capabilityIn_22 rfl rfl ?_
    first | refine g_aretS O d_Cd_capabilityIn_23 (Nat.le_of_ble_eq_true rfl) (Nat.le_of_ble_eq_true rfl) ?_ | refine g_aretN O d_Cd_capabilityIn_23 (Nat.le_of_ble_eq_true rfl) (Nat.le_of_ble_eq_true rfl) ?_
    exact e
  · have e := h1 (by cases hz : sS σ d i with
      | none => rfl
      | some c => rw [hz] at c8; cases c8)
    refine g_throwW (E := 3) O hst ew_3 (by decide +kernel) kl_Cd_73 ia_NoSuchElementException in_NoSuchElementException ml_Cd_77 ss_Cd_257 d_Cd_capabilityIn_11 d_Cd_capabilityIn_14 d_Cd_capabilityIn_15 d_Cd_capabilityIn_18 d_Cd_capabilityIn_21 rfl (Nat.le_of_ble_eq_true rfl) (Nat.le_of_ble_eq_true rfl) (Nat.le_of_ble_eq_true rfl) (Nat.le_of_ble_eq_true rfl) (Nat.le_of_ble_eq_true rfl) (Nat.le_of_ble_eq_true rfl) ?_
    exact e
set_option maxHeartbeats 4000000 in
set_option maxRecDepth 100000 in
theorem ct_Cd_targetField {G : cd_Gl} {l : Launch} {w : cd_Wd} {Q : cd_Out → cd_Wd → Prop} (hst : l.stackTraces = false) {x : Nat} {A : cd_A} {σ : cd_S} (hR : cd_Rep w x A σ) {c : Nat} {f : Int32} (hc : c < sC σ) (ht : sT σ (kH σ c) (kT σ c) = true) (h2 : isFi f = false → Q (.inr 5) w) (h3 : ∀ i, i < 3 → f = nI i → Q (.inl (some (.ref (A 6 (kH σ c) (kT σ c) i)))) w) : cd_Ct G l y_Cd_targetField 7 1 6 [.ref (A 8 c 0 0), .int f] w Q := by
  refine cd_ofW cw_Cd_targetField (by simp [Value.category, cat_rf]) (Nat.le_of_ble_eq_true rfl) fun C O => ?_
  change cd_Go G l C _ 0 0 w 0 [some (.ref (A 8 c 0 0)), some (.int f)] []
  have hw := hR.wf.2.2.2 c hc
  first | refine g_aload_n O 0 d_Cd_targetField_0 rfl rfl ?_ | refine g_aload_nq O 0 d_Cd_targetField_0 rfl rfl ?_
  refine g_getS O c_Ca 0 (by decide) rfl (hR.c hc).2.1 lk_Cd_130 d_Cd_targetField_1 (hR.c hc).2.2.1 ?_
  first | refine g_aload_n O 0 d_Cd_targetField_4 rfl rfl ?_ | refine g_aload_nq O 0 d_Cd_targetField_4 rfl rfl ?_
  refine g_getV O c_Ca 1 (by decide) rfl (hR.c hc).2.1 lk_Cd_134 d_Cd_targetField_5 (hR.c hc).2.2.2.1 ?_
  refine g_iload_n O 1 d_Cd_targetField_8 rfl rfl ?_
  refine g_calls (N := 6) (mc := 1) (ms := 6) (av := [_, _, _]) O (Or.inl ⟨_, _, cw_Cd_fieldOf⟩) pl_Cd ml_Cd_56 st_Cd_fieldOf in_Cd rfl d_Cd_targetField_9 rfl (Nat.le_of_ble_eq_true rfl) (Nat.le_of_ble_eq_true rfl) (Nat.le_of_ble_eq_true rfl) (Nat.le_of_ble_eq_true rfl) ?_
  refine ct_Cd_fieldOf hst hR hw.1 (fun e => ?_) (fun j hj ej _ ef => ?_) (fun j i hj ej _ hi ef => ?_)
  · rw [hasO_nI hw.2.1, ht] at e; cases e
  · exact gx_out O (Nat.le_of_ble_eq_true rfl) (Nat.le_of_ble_eq_true rfl) (h2 ef)
  have ejj : j = kT σ c := ((nI_eq (by omega) (by omega)).mp ej).symm
  subst ejj
  have e := h3 i hi ef
  change cd_Go _ _ _ _ _ _ _ _ _ _
  first | refine g_aretS O d_Cd_targetField_12 (Nat.le_of_ble_eq_true rfl) (Nat.le_of_ble_eq_true rfl) ?_ | refine g_aretN O d_Cd_targetField_12 (Nat.le_of_ble_eq_true rfl) (Nat.le_of_ble_eq_true rfl) ?_
  exact e
set_option maxHeartbeats 4000000 in
set_option maxRecDepth 100000 in
theorem ct_Ca_isUsedUp {G : cd_Gl} {l : Launch} {w : cd_Wd} {Q : cd_Out → cd_Wd → Prop} {x : Nat} {A : cd_A} {σ : cd_S} (hR : cd_Rep w x A σ) {c : Nat} (hc : c < sC σ) (h : Q (.inl (some (.int (cd_b (upB σ c))))) w) : cd_Ct G l y_Ca_isUsedUp 0 0 0 [.ref (A 8 c 0 0)] w Q := by
  refine cd_ofW cw_Ca_isUsedUp (by simp [Value.category, cat_rf]) (Nat.le_of_ble_eq_true rfl) fun C O => ?_
  change cd_Go G l C _ 0 0 w 0 [some (.ref (A 8 c 0 0)), none] []
  have hpar : ∀ c, c < sC σ → ∀ q, kP σ c = some q → q < c := fun c hc => (hR.wf.2.2.2 c hc).2.2
  have loop : ∀ (n c : Nat), c < n → c < sC σ → Q (.inl (some (.int (cd_b (upB σ c))))) w → ∀ a0, cd_Go G l C (cd_MQ G (cx_s C) (cx_b C) 0 0 Q) 0 0 w 2 [some (.ref a0), some (.ref (A 8 c 0 0))] [] := by
    intro n
    induction n with
    | zero => intro c h; omega
    | succ n ih =>
      intro c hn hc h a0
      rw [upB_eq hpar hc] at h
      first | refine g_aload_n O 1 d_Ca_isUsedUp_2 rfl rfl ?_ | refine g_aload_nq O 1 d_Ca_isUsedUp_2 rfl rfl ?_
      refine g_ifnullS O d_Ca_isUsedUp_3 ?_
      first | refine g_aload_n O 1 d_Ca_isUsedUp_6 rfl rfl ?_ | refine g_aload_nq O 1 d_Ca_isUsedUp_6 rfl rfl ?_
      refine g_getV O c_Ca 4 (by decide) rfl (hR.c hc).2.1 lk_Ca_24 d_Ca_isUsedUp_7 (hR.c hc).2.2.2.2.2.2.1 ?_
      refine g_if_ne O 15 d_Ca_isUsedUp_10 (by decide) (fun c10 => ?_) (fun c10 => ?_)
      · rw [decide_eq_false c10] at h
        first | refine g_aload_n O 1 d_Ca_isUsedUp_15 rfl rfl ?_ | refine g_aload_nq O 1 d_Ca_isUsedUp_15 rfl rfl ?_
        cases hp : kP σ c with
        | none =>
          rw [hp] at h
          refine g_getOV O c_Ca 2 (by decide) rfl (hR.c hc).2.1 lk_Ca_17 d_Ca_isUsedUp_16 (by rw [show cd_O w (32 * 4 + 2) (A 8 c 0 0) 0 = _ from (hR.c hc).2.2.2.2.1, hp]; rfl : _ = none) ?_
          first | refine g_astore_n O 1 d_Ca_isUsedUp_19 rfl (Nat.le_of_ble_eq_true rfl) ?_ | refine g_astore_nq O 1 d_Ca_isUsedUp_19 rfl (Nat.le_of_ble_eq_true rfl) ?_
          refine g_goto O 2 d_Ca_isUsedUp_20 (by decide) ?_
          first | refine g_aload_n O 1 d_Ca_isUsedUp_2 rfl rfl ?_ | refine g_aload_nq O 1 d_Ca_isUsedUp_2 rfl rfl ?_
          refine g_ifnullN O 23 d_Ca_isUsedUp_3 (by decide) ?_
          refine g_iconst (v := 0) O d_Ca_isUsedUp_23 (by decide) ?_
          refine g_zret O d_Ca_isUsedUp_24 (by first | exact Or.inl rfl | exact Or.inr rfl | assumption) (Nat.le_of_ble_eq_true rfl) (Nat.le_of_ble_eq_true rfl) ?_
          exact h
        | some p =>
          rw [hp] at h
          refine g_getS O c_Ca 2 (by decide) rfl (hR.c hc).2.1 lk_Ca_17 d_Ca_isUsedUp_16 (by rw [show cd_O w (32 * 4 + 2) (A 8 c 0 0) 0 = _ from (hR.c hc).2.2.2.2.1, hp]; rfl) ?_
          first | refine g_astore_n O 1 d_Ca_isUsedUp_19 rfl (Nat.le_of_ble_eq_true rfl) ?_ | refine g_astore_nq O 1 d_Ca_isUsedUp_19 rfl (Nat.le_of_ble_eq_true rfl) ?_
          refine g_goto O 2 d_Ca_isUsedUp_20 (by decide) ?_
          have hpc := hpar c hc p hp
          exact ih p (by omega) (by omega) (by simpa using h) a0
      · rw [decide_eq_true c10] at h
        refine g_iconst (v := 1) O d_Ca_isUsedUp_13 (by decide) ?_
        refine g_zret O d_Ca_isUsedUp_14 (by first | exact Or.inl rfl | exact Or.inr rfl | assumption) (Nat.le_of_ble_eq_true rfl) (Nat.le_of_ble_eq_true rfl) ?_
        exact h
  first | refine g_aload_n O 0 d_Ca_isUsedUp_0 rfl rfl ?_ | refine g_aload_nq O 0 d_Ca_isUsedUp_0 rfl rfl ?_
  first | refine g_astore_n O 1 d_Ca_isUsedUp_1 rfl (Nat.le_of_ble_eq_true rfl) ?_ | refine g_astore_nq O 1 d_Ca_isUsedUp_1 rfl (Nat.le_of_ble_eq_true rfl) ?_
  exact loop (c + 1) c (by omega) hc h _
