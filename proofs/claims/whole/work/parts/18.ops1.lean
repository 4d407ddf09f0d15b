theorem isFi_nI {j : Nat} (h : j < 3) : isFi (nI j) = true := by
  have h1 : ¬ (3 : Int32) ≤ nI j := nI_ge (b := 3) h (by omega)
  simp [isFi, nI_pos (show j < 2 ^ 31 by omega), h1]
theorem rep_newD0 {w v : cd_Wd} {x q b s : Nat} {A : cd_A} {σ : cd_S} {ob fa : Nat → Nat} {fi : Nat → Nat → Nat} {L : Nat → Nat × Nat × Nat} (hR : cd_Rep w x A σ) (hq : cd_kd w q = 0) (hN : doP (cd_wN w q 4 0) v q b ob fa fi L 12) (hs : cd_kd v s = 0) : cd_Rep (cd_wO (cd_wN v s 13 8) 34 q 0 (some s)) x A σ := by
  obtain ⟨n0, -⟩ := hN
  have h1 : cd_Fr w (cd_wO (cd_wN v s 13 8) 34 q 0 (some s)) (fun y => cd_kd w y = 0) := ((cd_Fr.wN hq).tr (n0.up fun y hy hz => ?_)).tr ((cd_Fr.wN hs).tr (cd_Fr.wO hq))
  · refine rep_fr hR h1 fun a ha => ?_
    rcases ha with rfl | ⟨k, d, o, f, hv, rfl⟩
    · rw [hR.top.1]; decide
    · exact rep_ex hR hv
  · rcases hz with rfl | hz
    · exact hq
    · exact absurd hz hy
set_option maxHeartbeats 4000000 in
set_option maxRecDepth 100000 in
theorem op_domain {G : cd_Gl} {l : Launch} {w : cd_Wd} {Q : cd_Out → cd_Wd → Prop} (hst : l.stackTraces = false) {x : Nat} {A : cd_A} {σ : cd_S} (hR : cd_Rep w x A σ) (hI : cd_Iv σ) {r : cd_R} (hr : sp_domain σ = r) (h : ∀ w' A', CO w x A σ w' A' r.2.2 → Q (oc ex_domain r) w') : cd_Ct G l y_Cd_domain 6 64 200 [.ref x] w Q := by
  refine cd_ofW cw_Cd_domain (by simp [Value.category, cat_rf]) (Nat.le_of_ble_eq_true rfl) fun C O => ?_
  change cd_Go G l C _ 0 0 w 0 [some (.ref x)] []
  have hD6 := hR.top.2.2.2.2.2.2.2.2.2.2.2.2.2.2.2.2.2.2.2.1
  first | refine g_aload_n O 0 d_Cd_domain_0 rfl rfl ?_ | refine g_aload_nq O 0 d_Cd_domain_0 rfl rfl ?_
  refine g_getV O c_Cd 1 (by decide) rfl hR.top.1 lk_Cd_28 d_Cd_domain_1 hR.top.2.2.2.2.2.2.2.2.2.2.2.2.2.2.2.2.2.2.1 ?_
  refine g_bipush (v := 6) O d_Cd_domain_4 (by decide) ?_
  refine g_icmp_lt  O 19 d_Cd_domain_6 (by decide) (fun c6 => ?_) (fun c6 => ?_)
  · have hn : sD σ < 6 := (nI_ltI (b := 6) (by omega) (by omega)).mp c6
    simp [sp_domain, hn] at hr
    subst hr
    first | refine g_aload_n O 0 d_Cd_domain_19 rfl rfl ?_ | refine g_aload_nq O 0 d_Cd_domain_19 rfl rfl ?_
    refine g_getS O c_Cd 0 (by decide) rfl hR.top.1 lk_Cd_11 d_Cd_domain_20 hR.top.2.1 ?_
    first | refine g_aload_n O 0 d_Cd_domain_23 rfl rfl ?_ | refine g_aload_nq O 0 d_Cd_domain_23 rfl rfl ?_
    refine g_getV O c_Cd 1 (by decide) rfl hR.top.1 lk_Cd_28 d_Cd_domain_24 hR.top.2.2.2.2.2.2.2.2.2.2.2.2.2.2.2.2.2.2.1 ?_
    refine g_new O c_Do kl_Cd_9 ia_Do in_Do d_Cd_domain_27 (Nat.le_of_ble_eq_true rfl) (Nat.le_of_ble_eq_true rfl) (fun b27 z27 => ?_)
    refine g_dup O d_Cd_domain_30 (by first | rfl | exact cat_rf _) ?_
    refine g_calli (N := 3) (mc := 62) (ms := 188) (av := []) O cw_Do_init pl_Do rfl ml_Cd_39 im_Do_init rfl d_Cd_domain_31 rfl (Nat.le_of_ble_eq_true rfl) (Nat.le_of_ble_eq_true rfl) (Nat.le_of_ble_eq_true rfl) (Nat.le_of_ble_eq_true rfl) ?_
    refine ct_Do_init (by rw [kd_wN, if_pos rfl]) (fun v b ob fa fi L s hN hs => ?_)
    obtain ⟨m1, m2, m3⟩ := rep_newD hR z27 hN hs hn hI.1
    have hR2 : cd_Rep (cd_wO (cd_wN v s 13 8) 34 b27 0 (some s)) x A σ := rep_newD0 hR z27 hN hs
    have hvq : cd_kd v b27 = 4 := by rw [hN.1.k (by rw [kd_wN, if_pos rfl]; decide), kd_wN, if_pos rfl]
    have hqs : ¬ b27 = s := fun e => by rw [e, hs] at hvq; cases hvq
    change cd_Go _ _ _ _ _ _ _ _ _ _
    first | refine g_aast (q := q_Do) O 3 1 rfl rfl rfl hR2.top.2.2.1 (by rw [kd_wO, kd_wN, if_neg hqs]; exact hvq) (by rw [hR2.top.2.2.2.1]; exact ix_in hn (by omega)) d_Cd_domain_34 ?_ | refine g_aastN (D := "CapabilityDomains$Domain") O 3 rfl rfl hR2.top.2.2.1 (by rw [hR2.top.2.2.2.1]; exact ix_in hn (by omega)) d_Cd_domain_34 ?_ | refine g_aastq (q := q_Do) O 3 1 rfl rfl rfl hR2.top.2.2.1 (by rw [kd_wO, kd_wN, if_neg hqs]; exact hvq) (by rw [hR2.top.2.2.2.1]; exact ix_in hn (by omega)) d_Cd_domain_34 ?_
    first | refine g_aload_n O 0 d_Cd_domain_35 rfl rfl ?_ | refine g_aload_nq O 0 d_Cd_domain_35 rfl rfl ?_
    refine g_dup O d_Cd_domain_36 (by first | rfl | exact cat_rf _) ?_
    refine g_getV O c_Cd 1 (by decide) rfl hR2.top.1 lk_Cd_28 d_Cd_domain_37 (show cd_I _ 1 x 0 = nI (sD σ) from hR2.top.2.2.2.2.2.2.2.2.2.2.2.2.2.2.2.2.2.2.1) ?_
    refine g_iconst (v := 1) O d_Cd_domain_40 (by decide) ?_
    refine g_iadd O d_Cd_domain_41 ?_
    rw [nI_1, nI_clamp (show sD σ < 2 ^ 31 by omega)]
    refine g_putI O c_Cd 1 (by decide) rfl hR2.top.1 (Or.inl rfl) (Or.inl rfl) lk_Cd_28 d_Cd_domain_42 ?_
    first | refine g_aload_n O 0 d_Cd_domain_45 rfl rfl ?_ | refine g_aload_nq O 0 d_Cd_domain_45 rfl rfl ?_
    refine g_getV O c_Cd 1 (by decide) rfl m1.top.1 lk_Cd_28 d_Cd_domain_46 (show cd_I _ 1 x 0 = nI (sD σ + 1) from m1.top.2.2.2.2.2.2.2.2.2.2.2.2.2.2.2.2.2.2.1) ?_
    refine g_iconst (v := 1) O d_Cd_domain_49 (by decide) ?_
    refine g_isub O d_Cd_domain_50 ?_
    rw [nI_pred]
    refine g_iret O d_Cd_domain_51 (Nat.le_of_ble_eq_true rfl) (Nat.le_of_ble_eq_true rfl) ?_
    exact h _ _ ⟨m1, m2, m3⟩
  · have hn : ¬ sD σ < 6 := fun z => c6 (nI_lt (b := 6) z (by omega))
    simp [sp_domain, hn] at hr
    subst hr
    refine g_throw (E := 2) O hst ew_2 (by decide +kernel) kl_Cd_32 ia_IllegalStateException in_IllegalStateException ml_Cd_36 ss_Cd_34 d_Cd_domain_9 d_Cd_domain_12 d_Cd_domain_13 d_Cd_domain_15 d_Cd_domain_18 rfl (Nat.le_of_ble_eq_true rfl) (Nat.le_of_ble_eq_true rfl) (Nat.le_of_ble_eq_true rfl) (Nat.le_of_ble_eq_true rfl) (Nat.le_of_ble_eq_true rfl) (Nat.le_of_ble_eq_true rfl) ?_
    exact h w A (CO.rf hR)
set_option maxHeartbeats 4000000 in
set_option maxRecDepth 100000 in
theorem op_object {G : cd_Gl} {l : Launch} {w : cd_Wd} {Q : cd_Out → cd_Wd → Prop} (hst : l.stackTraces = false) {x : Nat} {A : cd_A} {σ : cd_S} (hR : cd_Rep w x A σ) {d : Int32} {r : cd_R} (hr : sp_object σ d = r) (h : ∀ w' A', CO w x A σ w' A' r.2.2 → Q (oc ex_object r) w') : cd_Ct G l y_Cd_object 7 2 12 [.ref x, .int d] w Q := by
  refine cd_ofW cw_Cd_object (by simp [Value.category, cat_rf]) (Nat.le_of_ble_eq_true rfl) fun C O => ?_
  change cd_Go G l C _ 0 0 w 0 [some (.ref x), some (.int d), none] []
  have hD6 := hR.top.2.2.2.2.2.2.2.2.2.2.2.2.2.2.2.2.2.2.2.1
  first | refine g_aload_n O 0 d_Cd_object_0 rfl rfl ?_ | refine g_aload_nq O 0 d_Cd_object_0 rfl rfl ?_
  refine g_iload_n O 1 d_Cd_object_1 rfl rfl ?_
  refine g_callv (N := 6) (mc := 1) (ms := 6) (av := [_]) O (Or.inl ⟨_, _, cw_Cd_livingDomain⟩) pl_Cd (ci := 0) (q := q_Cd) rfl hR.top.1 ml_Cd_40 im_Cd_livingDomain se_Cd_livingDomain rfl d_Cd_object_2 rfl (Nat.le_of_ble_eq_true rfl) (Nat.le_of_ble_eq_true rfl) (Nat.le_of_ble_eq_true rfl) (Nat.le_of_ble_eq_true rfl) ?_
  refine ct_Cd_livingDomain hst hR (fun e => ?_) (fun j hjj ejj hej => ?_) (fun j hjj ejj hej => ?_)
  · simp [sp_object, rD, rF, rS, rU, e] at hr
    subst hr
    exact gx_out O (Nat.le_of_ble_eq_true rfl) (Nat.le_of_ble_eq_true rfl) (h w A (CO.rf hR))
  · subst ejj
    have hclj : (nI j).toNatClampNeg = j := nI_clamp (by omega)
    have hDj : isD σ (nI j) = true := isD_nI hjj hD6
    simp [sp_object, rD, rF, rS, rU, hclj, hDj, hej] at hr
    subst hr
    exact gx_out O (Nat.le_of_ble_eq_true rfl) (Nat.le_of_ble_eq_true rfl) (h w A (CO.rf hR))
  subst ejj
  have hclj : (nI j).toNatClampNeg = j := nI_clamp (by omega)
  have hDj : isD σ (nI j) = true := isD_nI hjj hD6
  change cd_Go _ _ _ _ _ _ _ _ _ _
  first | refine g_astore_n O 2 d_Cd_object_5 rfl (Nat.le_of_ble_eq_true rfl) ?_ | refine g_astore_nq O 2 d_Cd_object_5 rfl (Nat.le_of_ble_eq_true rfl) ?_
  first | refine g_aload_n O 2 d_Cd_object_6 rfl rfl ?_ | refine g_aload_nq O 2 d_Cd_object_6 rfl rfl ?_
  refine g_callv (N := 0) (mc := 0) (ms := 0) (av := []) O (Or.inl ⟨_, _, cw_Do_objectCount⟩) pl_Do (ci := 1) (q := q_Do) rfl (hR.d hjj).2.1 ml_Cd_44 im_Do_objectCount se_Do_objectCount rfl d_Cd_object_7 rfl (Nat.le_of_ble_eq_true rfl) (Nat.le_of_ble_eq_true rfl) (Nat.le_of_ble_eq_true rfl) (Nat.le_of_ble_eq_true rfl) ?_
  refine ct_Do_objectCount hR hjj ?_
  have hle := cnt_le (sT σ j) 12
  change cd_Go _ _ _ _ _ _ _ _ _ _
  refine g_bipush (v := 12) O d_Cd_object_10 (by decide) ?_
  refine g_icmp_lt  O 25 d_Cd_object_12 (by decide) (fun c12 => ?_) (fun c12 => ?_)
  · have hn : cnt (sT σ j) 12 < 12 := (nI_ltI (b := 12) (by omega) (by omega)).mp c12
    simp [sp_object, rD, hclj, hDj, hej, hn] at hr
    subst hr
    first | refine g_aload_n O 2 d_Cd_object_25 rfl rfl ?_ | refine g_aload_nq O 2 d_Cd_object_25 rfl rfl ?_
    refine g_callv (N := 2) (mc := 0) (ms := 0) (av := []) O (Or.inl ⟨_, _, cw_Do_makeObject⟩) pl_Do (ci := 1) (q := q_Do) rfl (hR.d hjj).2.1 ml_Cd_53 im_Do_makeObject se_Do_makeObject rfl d_Cd_object_26 rfl (Nat.le_of_ble_eq_true rfl) (Nat.le_of_ble_eq_true rfl) (Nat.le_of_ble_eq_true rfl) (Nat.le_of_ble_eq_true rfl) ?_
    refine ct_Do_makeObject hR hjj (fun o ho hf hl w' hR' hF' => ?_) (fun hall => ?_)
    · obtain rfl : fo σ j = o := ffr_eq ho hf hl
      have h := h w' A (CO.sm hR' hF' (newO_DC σ j _))
      change cd_Go _ _ _ _ _ _ _ _ _ _
      refine g_iret O d_Cd_object_29 (Nat.le_of_ble_eq_true rfl) (Nat.le_of_ble_eq_true rfl) ?_
      exact h
    · exact absurd (cnt_full.mpr hall) (by omega)
  · have hn : ¬ cnt (sT σ j) 12 < 12 := fun z => c12 (nI_lt (b := 12) z (by omega))
    simp [sp_object, rD, hclj, hDj, hej, hn] at hr
    subst hr
    refine g_throw (E := 6) O hst ew_6 (by decide +kernel) kl_Cd_48 ia_ArithmeticException in_ArithmeticException ml_Cd_52 ss_Cd_50 d_Cd_object_15 d_Cd_object_18 d_Cd_object_19 d_Cd_object_21 d_Cd_object_24 rfl (Nat.le_of_ble_eq_true rfl) (Nat.le_of_ble_eq_true rfl) (Nat.le_of_ble_eq_true rfl) (Nat.le_of_ble_eq_true rfl) (Nat.le_of_ble_eq_true rfl) (Nat.le_of_ble_eq_true rfl) ?_
    exact h w A (CO.rf hR)
set_option maxHeartbeats 4000000 in
set_option maxRecDepth 100000 in
theorem op_set {G : cd_Gl} {l : Launch} {w : cd_Wd} {Q : cd_Out → cd_Wd → Prop} (hst : l.stackTraces = false) {x : Nat} {A : cd_A} {σ : cd_S} (hR : cd_Rep w x A σ) {d o f v : Int32} {r : cd_R} (hr : sp_set σ d o f v = r) (h : ∀ w' A', CO w x A σ w' A' r.2.2 → Q (oc ex_set r) w') : cd_Ct G l y_Cd_set 7 2 12 [.ref x, .int d, .int o, .int f, .int v] w Q := by
  refine cd_ofW cw_Cd_set (by simp [Value.category, cat_rf]) (Nat.le_of_ble_eq_true rfl) fun C O => ?_
  change cd_Go G l C _ 0 0 w 0 [some (.ref x), some (.int d), some (.int o), some (.int f), some (.int v), none, none] []
  have hD6 := hR.top.2.2.2.2.2.2.2.2.2.2.2.2.2.2.2.2.2.2.2.1
  first | refine g_aload_n O 0 d_Cd_set_0 rfl rfl ?_ | refine g_aload_nq O 0 d_Cd_set_0 rfl rfl ?_
  refine g_iload_n O 1 d_Cd_set_1 rfl rfl ?_
  refine g_callv (N := 6) (mc := 1) (ms := 6) (av := [_]) O (Or.inl ⟨_, _, cw_Cd_livingDomain⟩) pl_Cd (ci := 0) (q := q_Cd) rfl hR.top.1 ml_Cd_40 im_Cd_livingDomain se_Cd_livingDomain rfl d_Cd_set_2 rfl (Nat.le_of_ble_eq_true rfl) (Nat.le_of_ble_eq_true rfl) (Nat.le_of_ble_eq_true rfl) (Nat.le_of_ble_eq_true rfl) ?_
  refine ct_Cd_livingDomain hst hR (fun e => ?_) (fun j hjj ejj hej => ?_) (fun j hjj ejj hej => ?_)
  · simp [sp_set, rD, rF, rS, rU, e] at hr
    subst hr
    exact gx_out O (Nat.le_of_ble_eq_true rfl) (Nat.le_of_ble_eq_true rfl) (h w A (CO.rf hR))
  · subst ejj
    have hclj : (nI j).toNatClampNeg = j := nI_clamp (by omega)
    have hDj : isD σ (nI j) = true := isD_nI hjj hD6
    simp [sp_set, rD, rF, rS, rU, hclj, hDj, hej] at hr
    subst hr
    exact gx_out O (Nat.le_of_ble_eq_true rfl) (Nat.le_of_ble_eq_true rfl) (h w A (CO.rf hR))
  subst ejj
  have hclj : (nI j).toNatClampNeg = j := nI_clamp (by omega)
  have hDj : isD σ (nI j) = true := isD_nI hjj hD6
  change cd_Go _ _ _ _ _ _ _ _ _ _
  refine g_iload_n O 2 d_Cd_set_5 rfl rfl ?_
  refine g_iload_n O 3 d_Cd_set_6 rfl rfl ?_
  refine g_calls (N := 6) (mc := 1) (ms := 6) (av := [_, _, _]) O (Or.inl ⟨_, _, cw_Cd_fieldOf⟩) pl_Cd ml_Cd_56 st_Cd_fieldOf in_Cd rfl d_Cd_set_7 rfl (Nat.le_of_ble_eq_true rfl) (Nat.le_of_ble_eq_true rfl) (Nat.le_of_ble_eq_true rfl) (Nat.le_of_ble_eq_true rfl) ?_
  refine ct_Cd_fieldOf hst hR hjj (fun e => ?_) (fun i hi ei hti ef => ?_) (fun i g hi ei hti hg eg => ?_)
  · simp [sp_set, rD, rF, rS, rU, hclj, hDj, hej, e] at hr
    subst hr
    exact gx_out O (Nat.le_of_ble_eq_true rfl) (Nat.le_of_ble_eq_true rfl) (h w A (CO.rf hR))
  · subst ei
    have hO : hasO σ j (nI i) = true := by rw [hasO_nI hi]; exact hti
    simp [sp_set, rD, rF, rS, rU, hclj, hDj, hej, hO, ef] at hr
    subst hr
    exact gx_out O (Nat.le_of_ble_eq_true rfl) (Nat.le_of_ble_eq_true rfl) (h w A (CO.rf hR))
  subst ei eg
  have hO : hasO σ j (nI i) = true := by rw [hasO_nI hi]; exact hti
  have hcli : (nI i).toNatClampNeg = i := nI_clamp (by omega)
  have hclg : (nI g).toNatClampNeg = g := nI_clamp (by omega)
  have hG : isFi (nI g) = true := isFi_nI hg
  change cd_Go _ _ _ _ _ _ _ _ _ _
  first | refine g_astore O d_Cd_set_10 (Nat.le_of_ble_eq_true rfl) ?_ | refine g_astoreq O d_Cd_set_10 (Nat.le_of_ble_eq_true rfl) ?_
  first | refine g_aload O d_Cd_set_12 rfl ?_ | refine g_aloadq O d_Cd_set_12 rfl ?_
  refine g_getV O c_Fi 0 (by decide) rfl (hR.f hjj hi hg).2.1 lk_Cd_60 d_Cd_set_14 (hR.f hjj hi hg).2.2.1 ?_
  refine g_istore O d_Cd_set_17 (Nat.le_of_ble_eq_true rfl) ?_
  first | refine g_aload O d_Cd_set_19 rfl ?_ | refine g_aloadq O d_Cd_set_19 rfl ?_
  refine g_iload O d_Cd_set_21 rfl ?_
  refine g_callv (N := 0) (mc := 0) (ms := 0) (av := [_]) O (Or.inl ⟨_, _, cw_Fi_becomeNumber⟩) pl_Fi (ci := 3) (q := q_Fi) rfl (hR.f hjj hi hg).2.1 ml_Cd_65 im_Fi_becomeNumber se_Fi_becomeNumber rfl d_Cd_set_23 rfl (Nat.le_of_ble_eq_true rfl) (Nat.le_of_ble_eq_true rfl) (Nat.le_of_ble_eq_true rfl) (Nat.le_of_ble_eq_true rfl) ?_
  refine ct_Fi_becomeNumber (hR.f hjj hi hg).2.1 ?_
  change cd_Go _ _ _ _ _ _ _ _ _ _
  refine g_iload O d_Cd_set_26 rfl ?_
  refine g_iret O d_Cd_set_28 (Nat.le_of_ble_eq_true rfl) (Nat.le_of_ble_eq_true rfl) ?_
  simp [sp_set, rD, rF, hclj, hDj, hej, hO, hcli, hclg, hG] at hr
  subst hr
  exact h _ A (CO.sm (rep_fN hR hjj hi hg v) (fr_fN (ow_at (k := 6) ⟨hjj, hi, hg⟩)) ⟨rfl, rfl⟩)
set_option maxHeartbeats 4000000 in
set_option maxRecDepth 100000 in
theorem op_link {G : cd_Gl} {l : Launch} {w : cd_Wd} {Q : cd_Out → cd_Wd → Prop} (hst : l.stackTraces = false) {x : Nat} {A : cd_A} {σ : cd_S} (hR : cd_Rep w x A σ) {d o f t : Int32} {r : cd_R} (hr : sp_link σ d o f t = r) (h : ∀ w' A', CO w x A σ w' A' r.2.2 → Q (oc ex_set r) w') : cd_Ct G l y_Cd_link 7 3 18 [.ref x, .int d, .int o, .int f, .int t] w Q := by
  refine cd_ofW cw_Cd_link (by simp [Value.category, cat_rf]) (Nat.le_of_ble_eq_true rfl) fun C O => ?_
  change cd_Go G l C _ 0 0 w 0 [some (.ref x), some (.int d), some (.int o), some (.int f), some (.int t), none, none] []
  have hD6 := hR.top.2.2.2.2.2.2.2.2.2.2.2.2.2.2.2.2.2.2.2.1
  first | refine g_aload_n O 0 d_Cd_link_0 rfl rfl ?_ | refine g_aload_nq O 0 d_Cd_link_0 rfl rfl ?_
  refine g_iload_n O 1 d_Cd_link_1 rfl rfl ?_
  refine g_callv (N := 6) (mc := 1) (ms := 6) (av := [_]) O (Or.inl ⟨_, _, cw_Cd_livingDomain⟩) pl_Cd (ci := 0) (q := q_Cd) rfl hR.top.1 ml_Cd_40 im_Cd_livingDomain se_Cd_livingDomain rfl d_Cd_link_2 rfl (Nat.le_of_ble_eq_true rfl) (Nat.le_of_ble_eq_true rfl) (Nat.le_of_ble_eq_true rfl) (Nat.le_of_ble_eq_true rfl) ?_
  refine ct_Cd_livingDomain hst hR (fun e => ?_) (fun j hjj ejj hej => ?_) (fun j hjj ejj hej => ?_)
  · simp [sp_link, rD, rF, rS, rU, e] at hr
    subst hr
    exact gx_out O (Nat.le_of_ble_eq_true rfl) (Nat.le_of_ble_eq_true rfl) (h w A (CO.rf hR))
  · subst ejj
    have hclj : (nI j).toNatClampNeg = j := nI_clamp (by omega)
    have hDj : isD σ (nI j) = true := isD_nI hjj hD6
    simp [sp_link, rD, rF, rS, rU, hclj, hDj, hej] at hr
    subst hr
    exact gx_out O (Nat.le_of_ble_eq_true rfl) (Nat.le_of_ble_eq_true rfl) (h w A (CO.rf hR))
  subst ejj
  have hclj : (nI j).toNatClampNeg = j := nI_clamp (by omega)
  have hDj : isD σ (nI j) = true := isD_nI hjj hD6
  change cd_Go _ _ _ _ _ _ _ _ _ _
  first | refine g_astore O d_Cd_link_5 (Nat.le_of_ble_eq_true rfl) ?_ | refine g_astoreq O d_Cd_link_5 (Nat.le_of_ble_eq_true rfl) ?_
  first | refine g_aload O d_Cd_link_7 rfl ?_ | refine g_aloadq O d_Cd_link_7 rfl ?_
  refine g_iload_n O 2 d_Cd_link_9 rfl rfl ?_
  refine g_iload_n O 3 d_Cd_link_10 rfl rfl ?_
  refine g_calls (N := 6) (mc := 1) (ms := 6) (av := [_, _, _]) O (Or.inl ⟨_, _, cw_Cd_fieldOf⟩) pl_Cd ml_Cd_56 st_Cd_fieldOf in_Cd rfl d_Cd_link_11 rfl (Nat.le_of_ble_eq_true rfl) (Nat.le_of_ble_eq_true rfl) (Nat.le_of_ble_eq_true rfl) (Nat.le_of_ble_eq_true rfl) ?_
  refine ct_Cd_fieldOf hst hR hjj (fun e => ?_) (fun i hi ei hti ef => ?_) (fun i g hi ei hti hg eg => ?_)
  · simp [sp_link, rD, rF, rS, rU, hclj, hDj, hej, e] at hr
    subst hr
    exact gx_out O (Nat.le_of_ble_eq_true rfl) (Nat.le_of_ble_eq_true rfl) (h w A (CO.rf hR))
  · subst ei
    have hO : hasO σ j (nI i) = true := by rw [hasO_nI hi]; exact hti
    simp [sp_link, rD, rF, rS, rU, hclj, hDj, hej, hO, ef] at hr
    subst hr
    exact gx_out O (Nat.le_of_ble_eq_true rfl) (Nat.le_of_ble_eq_true rfl) (h w A (CO.rf hR))
  subst ei eg
  have hO : hasO σ j (nI i) = true := by rw [hasO_nI hi]; exact hti
  have hcli : (nI i).toNatClampNeg = i := nI_clamp (by omega)
  have hclg : (nI g).toNatClampNeg = g := nI_clamp (by omega)
  have hG : isFi (nI g) = true := isFi_nI hg
  change cd_Go _ _ _ _ _ _ _ _ _ _
  first | refine g_astore O d_Cd_link_14 (Nat.le_of_ble_eq_true rfl) ?_ | refine g_astoreq O d_Cd_link_14 (Nat.le_of_ble_eq_true rfl) ?_
  first | refine g_aload O d_Cd_link_16 rfl ?_ | refine g_aloadq O d_Cd_link_16 rfl ?_
  refine g_iload O d_Cd_link_18 rfl ?_
  refine g_callv (N := 0) (mc := 0) (ms := 0) (av := [_]) O (Or.inl ⟨_, _, cw_Do_hasObject⟩) pl_Do (ci := 1) (q := q_Do) rfl (hR.d hjj).2.1 ml_Cd_69 im_Do_hasObject se_Do_hasObject rfl d_Cd_link_20 rfl (Nat.le_of_ble_eq_true rfl) (Nat.le_of_ble_eq_true rfl) (Nat.le_of_ble_eq_true rfl) (Nat.le_of_ble_eq_true rfl) ?_
  refine ct_Do_hasObject hR hjj ?_
  change cd_Go _ _ _ _ _ _ _ _ _ _
  refine g_if_ne  O 36 d_Cd_link_23 (by decide) (fun c23 => ?_) (fun c23 => ?_)
  · have hn := cd_b_ne.mp c23
    obtain ⟨t', ht', rfl, -⟩ := hasO_of hn
    have hclt : (nI t').toNatClampNeg = t' := nI_clamp (by omega)
    first | refine g_aload O d_Cd_link_36 rfl ?_ | refine g_aloadq O d_Cd_link_36 rfl ?_
    refine g_iload O d_Cd_link_38 rfl ?_
    refine g_callv (N := 0) (mc := 0) (ms := 0) (av := [_]) O (Or.inl ⟨_, _, cw_Fi_becomeLink⟩) pl_Fi (ci := 3) (q := q_Fi) rfl (hR.f hjj hi hg).2.1 ml_Cd_78 im_Fi_becomeLink se_Fi_becomeLink rfl d_Cd_link_40 rfl (Nat.le_of_ble_eq_true rfl) (Nat.le_of_ble_eq_true rfl) (Nat.le_of_ble_eq_true rfl) (Nat.le_of_ble_eq_true rfl) ?_
    refine ct_Fi_becomeLink (hR.f hjj hi hg).2.1 ?_
    change cd_Go _ _ _ _ _ _ _ _ _ _
    refine g_iconst (v := 0) O d_Cd_link_43 (by decide) ?_
    refine g_iret O d_Cd_link_44 (Nat.le_of_ble_eq_true rfl) (Nat.le_of_ble_eq_true rfl) ?_
    simp [sp_link, rD, rF, hn, hclt, hclj, hDj, hej, hO, hcli, hclg, hG] at hr
    subst hr
    exact h _ A (CO.sm (rep_fL hR hjj hi hg ht') (fr_fL (ow_at (k := 6) ⟨hjj, hi, hg⟩)) ⟨rfl, rfl⟩)
  · have hn := cd_b_eq.mp c23
    refine g_throw (E := 3) O hst ew_3 (by decide +kernel) kl_Cd_73 ia_NoSuchElementException in_NoSuchElementException ml_Cd_77 ss_Cd_75 d_Cd_link_26 d_Cd_link_29 d_Cd_link_30 d_Cd_link_32 d_Cd_link_35 rfl (Nat.le_of_ble_eq_true rfl) (Nat.le_of_ble_eq_true rfl) (Nat.le_of_ble_eq_true rfl) (Nat.le_of_ble_eq_true rfl) (Nat.le_of_ble_eq_true rfl) (Nat.le_of_ble_eq_true rfl) ?_
    simp [sp_link, rD, rF, rS, rU, hclj, hDj, hej, hO, hcli, hclg, hG, hn] at hr
    subst hr
    exact h w A (CO.rf hR)
set_option maxHeartbeats 4000000 in
set_option maxRecDepth 100000 in
theorem op_hold {G : cd_Gl} {l : Launch} {w : cd_Wd} {Q : cd_Out → cd_Wd → Prop} (hst : l.stackTraces = false) {x : Nat} {A : cd_A} {σ : cd_S} (hR : cd_Rep w x A σ) {d o f s : Int32} {r : cd_R} (hr : sp_hold σ d o f s = r) (h : ∀ w' A', CO w x A σ w' A' r.2.2 → Q (oc ex_set r) w') : cd_Ct G l y_Cd_hold 7 4 24 [.ref x, .int d, .int o, .int f, .int s] w Q := by
  refine cd_ofW cw_Cd_hold (by simp [Value.category, cat_rf]) (Nat.le_of_ble_eq_true rfl) fun C O => ?_
  change cd_Go G l C _ 0 0 w 0 [some (.ref x), some (.int d), some (.int o), some (.int f), some (.int s), none, none] []
  have hD6 := hR.top.2.2.2.2.2.2.2.2.2.2.2.2.2.2.2.2.2.2.2.1
  first | refine g_aload_n O 0 d_Cd_hold_0 rfl rfl ?_ | refine g_aload_nq O 0 d_Cd_hold_0 rfl rfl ?_
  refine g_iload_n O 1 d_Cd_hold_1 rfl rfl ?_
  refine g_callv (N := 6) (mc := 1) (ms := 6) (av := [_]) O (Or.inl ⟨_, _, cw_Cd_livingDomain⟩) pl_Cd (ci := 0) (q := q_Cd) rfl hR.top.1 ml_Cd_40 im_Cd_livingDomain se_Cd_livingDomain rfl d_Cd_hold_2 rfl (Nat.le_of_ble_eq_true rfl) (Nat.le_of_ble_eq_true rfl) (Nat.le_of_ble_eq_true rfl) (Nat.le_of_ble_eq_true rfl) ?_
  refine ct_Cd_livingDomain hst hR (fun e => ?_) (fun j hjj ejj hej => ?_) (fun j hjj ejj hej => ?_)
  · simp [sp_hold, rD, rF, rS, rU, e] at hr
    subst hr
    exact gx_out O (Nat.le_of_ble_eq_true rfl) (Nat.le_of_ble_eq_true rfl) (h w A (CO.rf hR))
  · subst ejj
    have hclj : (nI j).toNatClampNeg = j := nI_clamp (by omega)
    have hDj : isD σ (nI j) = true := isD_nI hjj hD6
    simp [sp_hold, rD, rF, rS, rU, hclj, hDj, hej] at hr
    subst hr
    exact gx_out O (Nat.le_of_ble_eq_true rfl) (Nat.le_of_ble_eq_true rfl) (h w A (CO.rf hR))
  subst ejj
  have hclj : (nI j).toNatClampNeg = j := nI_clamp (by omega)
  have hDj : isD σ (nI j) = true := isD_nI hjj hD6
  change cd_Go _ _ _ _ _ _ _ _ _ _
  first | refine g_astore O d_Cd_hold_5 (Nat.le_of_ble_eq_true rfl) ?_ | refine g_astoreq O d_Cd_hold_5 (Nat.le_of_ble_eq_true rfl) ?_
  first | refine g_aload O d_Cd_hold_7 rfl ?_ | refine g_aloadq O d_Cd_hold_7 rfl ?_
  refine g_iload_n O 2 d_Cd_hold_9 rfl rfl ?_
  refine g_iload_n O 3 d_Cd_hold_10 rfl rfl ?_
  refine g_calls (N := 6) (mc := 1) (ms := 6) (av := [_, _, _]) O (Or.inl ⟨_, _, cw_Cd_fieldOf⟩) pl_Cd ml_Cd_56 st_Cd_fieldOf in_Cd rfl d_Cd_hold_11 rfl (Nat.le_of_ble_eq_true rfl) (Nat.le_of_ble_eq_true rfl) (Nat.le_of_ble_eq_true rfl) (Nat.le_of_ble_eq_true rfl) ?_
  refine ct_Cd_fieldOf hst hR hjj (fun e => ?_) (fun i hi ei hti ef => ?_) (fun i g hi ei hti hg eg => ?_)
  · simp [sp_hold, rD, rF, rS, rU, hclj, hDj, hej, e] at hr
    subst hr
    exact gx_out O (Nat.le_of_ble_eq_true rfl) (Nat.le_of_ble_eq_true rfl) (h w A (CO.rf hR))
  · subst ei
    have hO : hasO σ j (nI i) = true := by rw [hasO_nI hi]; exact hti
    simp [sp_hold, rD, rF, rS, rU, hclj, hDj, hej, hO, ef] at hr
    subst hr
    exact gx_out O (Nat.le_of_ble_eq_true rfl) (Nat.le_of_ble_eq_true rfl) (h w A (CO.rf hR))
  subst ei eg
  have hO : hasO σ j (nI i) = true := by rw [hasO_nI hi]; exact hti
  have hcli : (nI i).toNatClampNeg = i := nI_clamp (by omega)
  have hclg : (nI g).toNatClampNeg = g := nI_clamp (by omega)
  have hG : isFi (nI g) = true := isFi_nI hg
  change cd_Go _ _ _ _ _ _ _ _ _ _
  first | refine g_astore O d_Cd_hold_14 (Nat.le_of_ble_eq_true rfl) ?_ | refine g_astoreq O d_Cd_hold_14 (Nat.le_of_ble_eq_true rfl) ?_
  refine g_iload O d_Cd_hold_16 rfl ?_
  refine g_calls (N := 0) (mc := 0) (ms := 0) (av := [_]) O (Or.inl ⟨_, _, cw_Cd_isSlot⟩) pl_Cd ml_Cd_81 st_Cd_isSlot in_Cd rfl d_Cd_hold_18 rfl (Nat.le_of_ble_eq_true rfl) (Nat.le_of_ble_eq_true rfl) (Nat.le_of_ble_eq_true rfl) (Nat.le_of_ble_eq_true rfl) ?_
  refine ct_Cd_isSlot ?_
  change cd_Go _ _ _ _ _ _ _ _ _ _
  refine g_if_ne  O 34 d_Cd_hold_21 (by decide) (fun c21 => ?_) (fun c21 => ?_)
  · have hn := cd_b_ne.mp c21
    obtain ⟨s', hs', rfl⟩ := isSl_of hn
    have hcls : (nI s').toNatClampNeg = s' := nI_clamp (by omega)
    first | refine g_aload O d_Cd_hold_34 rfl ?_ | refine g_aloadq O d_Cd_hold_34 rfl ?_
    first | refine g_aload O d_Cd_hold_36 rfl ?_ | refine g_aloadq O d_Cd_hold_36 rfl ?_
    refine g_iload O d_Cd_hold_38 rfl ?_
    refine g_calls (N := 6) (mc := 1) (ms := 6) (av := [_, _]) O (Or.inl ⟨_, _, cw_Cd_capabilityIn⟩) pl_Cd ml_Cd_89 st_Cd_capabilityIn in_Cd rfl d_Cd_hold_40 rfl (Nat.le_of_ble_eq_true rfl) (Nat.le_of_ble_eq_true rfl) (Nat.le_of_ble_eq_true rfl) (Nat.le_of_ble_eq_true rfl) ?_
    refine ct_Cd_capabilityIn hst hR hjj hs' (fun e => ?_) (fun c hs hc => ?_)
    · simp [sp_hold, rD, rF, rS, rU, hclj, hDj, hej, hO, hcli, hclg, hG, hn, hcls, e] at hr
      subst hr
      exact gx_out O (Nat.le_of_ble_eq_true rfl) (Nat.le_of_ble_eq_true rfl) (h w A (CO.rf hR))
    change cd_Go _ _ _ _ _ _ _ _ _ _
    refine g_callv (N := 0) (mc := 0) (ms := 0) (av := [_]) O (Or.inl ⟨_, _, cw_Fi_becomeCapability⟩) pl_Fi (ci := 3) (q := q_Fi) rfl (hR.f hjj hi hg).2.1 ml_Cd_93 im_Fi_becomeCapability se_Fi_becomeCapability rfl d_Cd_hold_43 rfl (Nat.le_of_ble_eq_true rfl) (Nat.le_of_ble_eq_true rfl) (Nat.le_of_ble_eq_true rfl) (Nat.le_of_ble_eq_true rfl) ?_
    refine ct_Fi_becomeCapability (hR.f hjj hi hg).2.1 ?_
    change cd_Go _ _ _ _ _ _ _ _ _ _
    refine g_iconst (v := 0) O d_Cd_hold_46 (by decide) ?_
    refine g_iret O d_Cd_hold_47 (Nat.le_of_ble_eq_true rfl) (Nat.le_of_ble_eq_true rfl) ?_
    simp [sp_hold, rD, rF, hn, hcls, hs, hclj, hDj, hej, hO, hcli, hclg, hG] at hr
    subst hr
    exact h _ A (CO.sm (rep_fC hR hjj hi hg hc) (fr_fC (ow_at (k := 6) ⟨hjj, hi, hg⟩)) ⟨rfl, rfl⟩)
  · have hn := cd_b_eq.mp c21
    refine g_throw (E := 5) O hst ew_5 (by decide +kernel) kl_Cd_84 ia_IndexOutOfBoundsException in_IndexOutOfBoundsException ml_Cd_88 ss_Cd_86 d_Cd_hold_24 d_Cd_hold_27 d_Cd_hold_28 d_Cd_hold_30 d_Cd_hold_33 rfl (Nat.le_of_ble_eq_true rfl) (Nat.le_of_ble_eq_true rfl) (Nat.le_of_ble_eq_true rfl) (Nat.le_of_ble_eq_true rfl) (Nat.le_of_ble_eq_true rfl) (Nat.le_of_ble_eq_true rfl) ?_
    simp [sp_hold, rD, rF, rS, rU, hclj, hDj, hej, hO, hcli, hclg, hG, hn] at hr
    subst hr
    exact h w A (CO.rf hR)
