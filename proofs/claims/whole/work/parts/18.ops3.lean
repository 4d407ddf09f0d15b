theorem isNm_b {t : Int32 × Option Nat × Option Nat} {f : Nat → Nat} (h : ∀ z, t.2.1 = some z → z < 12) : cd_bi (cd_l t.2.1 = -1 ∧ t.2.2.map f = none) = cd_b (isNm t) := by
  have h1 := cd_l_eq h
  obtain ⟨n, lk, cp⟩ := t
  cases lk <;> cases cp <;> simp_all [cd_bi, cd_b, isNm]
set_option maxHeartbeats 4000000 in
set_option maxRecDepth 100000 in
theorem op_read {G : cd_Gl} {l : Launch} {w : cd_Wd} {Q : cd_Out → cd_Wd → Prop} (hst : l.stackTraces = false) {x : Nat} {A : cd_A} {σ : cd_S} (hR : cd_Rep w x A σ) (hI : cd_Iv σ) {d s f : Int32} {r : cd_R} (hr : sp_read σ d s f = r) (h : ∀ w' A', CO w x A σ w' A' r.2.2 → Q (oc (fun k => k) r) w') : cd_Ct G l y_Cd_read 8 6 36 [.ref x, .int d, .int s, .int f] w Q := by
  refine cd_ofW cw_Cd_read (by simp [Value.category, cat_rf]) (Nat.le_of_ble_eq_true rfl) fun C O => ?_
  change cd_Go G l C _ 0 0 w 0 [some (.ref x), some (.int d), some (.int s), some (.int f), none, none] []
  have hD6 := hR.top.2.2.2.2.2.2.2.2.2.2.2.2.2.2.2.2.2.2.2.1
  first | refine g_aload_n O 0 d_Cd_read_0 rfl rfl ?_ | refine g_aload_nq O 0 d_Cd_read_0 rfl rfl ?_
  refine g_iload_n O 1 d_Cd_read_1 rfl rfl ?_
  refine g_iload_n O 2 d_Cd_read_2 rfl rfl ?_
  refine g_iconst (v := 1) O d_Cd_read_3 (by decide) ?_
  refine g_callv (N := 7) (mc := 4) (ms := 24) (av := [_, _, _]) O (Or.inl ⟨_, _, cw_Cd_usable⟩) pl_Cd (ci := 0) (q := q_Cd) rfl hR.top.1 ml_Cd_149 im_Cd_usable se_Cd_usable rfl d_Cd_read_4 rfl (Nat.le_of_ble_eq_true rfl) (Nat.le_of_ble_eq_true rfl) (Nat.le_of_ble_eq_true rfl) (Nat.le_of_ble_eq_true rfl) ?_
  refine ct_Cd_usable hst hR (fun e => ?_) (fun j i hjj ej hii ei hej => ?_) (fun j i hjj ej hii ei hej hs => ?_) (fun j i c hjj ej hii ei hej hs hc hxu => ?_) (fun j i c hjj ej hii ei hej hs hc hxu hal => ?_) (fun j i c hjj ej hii ei hej hs hc hxu hal => ?_)
  · simp [sp_read, rD, rF, rS, rU, e] at hr
    subst hr
    exact gx_out O (Nat.le_of_ble_eq_true rfl) (Nat.le_of_ble_eq_true rfl) (h w A (CO.rf hR))
  · subst ej ei
    have hclj : (nI j).toNatClampNeg = j := nI_clamp (by omega)
    have hcli : (nI i).toNatClampNeg = i := nI_clamp (by omega)
    have hDj : isD σ (nI j) = true := isD_nI hjj hD6
    have hSi : isSl (nI i) = true := isSl_nI hii
    simp [sp_read, rD, rF, rS, rU, hDj, hSi, hclj, hcli, hej] at hr
    subst hr
    exact gx_out O (Nat.le_of_ble_eq_true rfl) (Nat.le_of_ble_eq_true rfl) (h w A (CO.rf hR))
  · subst ej ei
    have hclj : (nI j).toNatClampNeg = j := nI_clamp (by omega)
    have hcli : (nI i).toNatClampNeg = i := nI_clamp (by omega)
    have hDj : isD σ (nI j) = true := isD_nI hjj hD6
    have hSi : isSl (nI i) = true := isSl_nI hii
    simp [sp_read, rD, rF, rS, rU, hDj, hSi, hclj, hcli, hej, hs] at hr
    subst hr
    exact gx_out O (Nat.le_of_ble_eq_true rfl) (Nat.le_of_ble_eq_true rfl) (h w A (CO.rf hR))
  · subst ej ei
    have hclj : (nI j).toNatClampNeg = j := nI_clamp (by omega)
    have hcli : (nI i).toNatClampNeg = i := nI_clamp (by omega)
    have hDj : isD σ (nI j) = true := isD_nI hjj hD6
    have hSi : isSl (nI i) = true := isSl_nI hii
    have hxu := Bool.or_eq_true_iff.mp hxu
    simp [sp_read, rD, rF, rS, rU, hDj, hSi, hclj, hcli, hej, hs, hxu] at hr
    subst hr
    exact gx_out O (Nat.le_of_ble_eq_true rfl) (Nat.le_of_ble_eq_true rfl) (h w A (CO.rf hR))
  · subst ej ei
    have hclj : (nI j).toNatClampNeg = j := nI_clamp (by omega)
    have hcli : (nI i).toNatClampNeg = i := nI_clamp (by omega)
    have hDj : isD σ (nI j) = true := isD_nI hjj hD6
    have hSi : isSl (nI i) = true := isSl_nI hii
    have hxu := Bool.or_eq_false_iff.mp hxu
    simp [sp_read, rD, rF, rS, rU, hDj, hSi, hclj, hcli, hej, hs, hxu, hal] at hr
    subst hr
    exact gx_out O (Nat.le_of_ble_eq_true rfl) (Nat.le_of_ble_eq_true rfl) (h w A (CO.rf hR))
  subst ej ei
  have hclj : (nI j).toNatClampNeg = j := nI_clamp (by omega)
  have hcli : (nI i).toNatClampNeg = i := nI_clamp (by omega)
  have hDj : isD σ (nI j) = true := isD_nI hjj hD6
  have hSi : isSl (nI i) = true := isSl_nI hii
  have hxu := Bool.or_eq_false_iff.mp hxu
  have hth := hI.th hc hxu.1
  have hw := hR.wf.2.2.2 c hc
  change cd_Go _ _ _ _ _ _ _ _ _ _
  first | refine g_astore O d_Cd_read_7 (Nat.le_of_ble_eq_true rfl) ?_ | refine g_astoreq O d_Cd_read_7 (Nat.le_of_ble_eq_true rfl) ?_
  first | refine g_aload O d_Cd_read_9 rfl ?_ | refine g_aloadq O d_Cd_read_9 rfl ?_
  refine g_iload_n O 3 d_Cd_read_11 rfl rfl ?_
  refine g_calls (N := 7) (mc := 1) (ms := 6) (av := [_, _]) O (Or.inl ⟨_, _, cw_Cd_targetField⟩) pl_Cd ml_Cd_153 st_Cd_targetField in_Cd rfl d_Cd_read_12 rfl (Nat.le_of_ble_eq_true rfl) (Nat.le_of_ble_eq_true rfl) (Nat.le_of_ble_eq_true rfl) (Nat.le_of_ble_eq_true rfl) ?_
  refine ct_Cd_targetField hst hR hc hth.1 (fun e => ?_) (fun g hg eg => ?_)
  · simp [sp_read, rD, rF, rS, rU, hDj, hSi, hclj, hcli, hej, hs, hxu, hal, e] at hr
    subst hr
    exact gx_out O (Nat.le_of_ble_eq_true rfl) (Nat.le_of_ble_eq_true rfl) (h w A (CO.rf hR))
  subst eg
  have hclg : (nI g).toNatClampNeg = g := nI_clamp (by omega)
  have hG : isFi (nI g) = true := isFi_nI hg
  change cd_Go _ _ _ _ _ _ _ _ _ _
  first | refine g_astore O d_Cd_read_15 (Nat.le_of_ble_eq_true rfl) ?_ | refine g_astoreq O d_Cd_read_15 (Nat.le_of_ble_eq_true rfl) ?_
  first | refine g_aload O d_Cd_read_17 rfl ?_ | refine g_aloadq O d_Cd_read_17 rfl ?_
  refine g_callv (N := 0) (mc := 0) (ms := 0) (av := []) O (Or.inl ⟨_, _, cw_Fi_isNumber⟩) pl_Fi (ci := 3) (q := q_Fi) rfl (hR.f hw.1 hw.2.1 hg).2.1 ml_Cd_157 im_Fi_isNumber se_Fi_isNumber rfl d_Cd_read_19 rfl (Nat.le_of_ble_eq_true rfl) (Nat.le_of_ble_eq_true rfl) (Nat.le_of_ble_eq_true rfl) (Nat.le_of_ble_eq_true rfl) ?_
  refine ct_Fi_isNumber (hR.f hw.1 hw.2.1 hg).2.1 ?_
  rw [(hR.f hw.1 hw.2.1 hg).2.2.2.1, (hR.f hw.1 hw.2.1 hg).2.2.2.2, isNm_b (fun z => hR.wf.2.2.1 _ _ _ z hw.1 hw.2.1 hg)]
  change cd_Go _ _ _ _ _ _ _ _ _ _
  refine g_if_ne  O 35 d_Cd_read_22 (by decide) (fun c22 => ?_) (fun c22 => ?_)
  · have hn := cd_b_ne.mp c22
    first | refine g_aload O d_Cd_read_35 rfl ?_ | refine g_aloadq O d_Cd_read_35 rfl ?_
    refine g_callv (N := 0) (mc := 0) (ms := 0) (av := []) O (Or.inl ⟨_, _, cw_Ca_spendOneUse⟩) pl_Ca (ci := 4) (q := q_Ca) rfl (hR.c hc).2.1 ml_Cd_163 im_Ca_spendOneUse se_Ca_spendOneUse rfl d_Cd_read_37 rfl (Nat.le_of_ble_eq_true rfl) (Nat.le_of_ble_eq_true rfl) (Nat.le_of_ble_eq_true rfl) (Nat.le_of_ble_eq_true rfl) ?_
    refine ct_Ca_spendOneUse hR hc (fun w' hR' hF' => ?_)
    have hDC := spendL_DC σ (anc σ c)
    have hh1 : kH σ c < sD (spendL σ (anc σ c)) := by rw [hDC.1]; exact hw.1
    change cd_Go _ _ _ _ _ _ _ _ _ _
    first | refine g_aload O d_Cd_read_40 rfl ?_ | refine g_aloadq O d_Cd_read_40 rfl ?_
    refine g_getV O c_Fi 0 (by decide) rfl (hR'.f hh1 hw.2.1 hg).2.1 lk_Cd_60 d_Cd_read_42 (show cd_I w' 96 _ 0 = (sF σ (kH σ c) (kT σ c) g).1 from by rw [← (spendL_D σ (anc σ c)).2.2.2.1]; exact (hR'.f hh1 hw.2.1 hg).2.2.1) ?_
    refine g_iret O d_Cd_read_45 (Nat.le_of_ble_eq_true rfl) (Nat.le_of_ble_eq_true rfl) ?_
    simp [sp_read, rU, rD, rS, hn, hDj, hSi, hclj, hcli, hej, hs, hxu, hal, hclg, hG] at hr
    subst hr
    exact h w' A (CO.sm hR' hF' hDC)
  · have hn := cd_b_eq.mp c22
    refine g_throw (E := 6) O hst ew_6 (by decide +kernel) kl_Cd_48 ia_ArithmeticException in_ArithmeticException ml_Cd_52 ss_Cd_161 d_Cd_read_25 d_Cd_read_28 d_Cd_read_29 d_Cd_read_31 d_Cd_read_34 rfl (Nat.le_of_ble_eq_true rfl) (Nat.le_of_ble_eq_true rfl) (Nat.le_of_ble_eq_true rfl) (Nat.le_of_ble_eq_true rfl) (Nat.le_of_ble_eq_true rfl) (Nat.le_of_ble_eq_true rfl) ?_
    simp [sp_read, rD, rF, rS, rU, hDj, hSi, hclj, hcli, hej, hs, hxu, hal, hclg, hG, hn] at hr
    subst hr
    exact h w A (CO.rf hR)
set_option maxHeartbeats 4000000 in
set_option maxRecDepth 100000 in
theorem op_write {G : cd_Gl} {l : Launch} {w : cd_Wd} {Q : cd_Out → cd_Wd → Prop} (hst : l.stackTraces = false) {x : Nat} {A : cd_A} {σ : cd_S} (hR : cd_Rep w x A σ) (hI : cd_Iv σ) {d s f v : Int32} {r : cd_R} (hr : sp_write σ d s f v = r) (h : ∀ w' A', CO w x A σ w' A' r.2.2 → Q (oc (fun k => k) r) w') : cd_Ct G l y_Cd_write 8 5 30 [.ref x, .int d, .int s, .int f, .int v] w Q := by
  refine cd_ofW cw_Cd_write (by simp [Value.category, cat_rf]) (Nat.le_of_ble_eq_true rfl) fun C O => ?_
  change cd_Go G l C _ 0 0 w 0 [some (.ref x), some (.int d), some (.int s), some (.int f), some (.int v), none] []
  have hD6 := hR.top.2.2.2.2.2.2.2.2.2.2.2.2.2.2.2.2.2.2.2.1
  first | refine g_aload_n O 0 d_Cd_write_0 rfl rfl ?_ | refine g_aload_nq O 0 d_Cd_write_0 rfl rfl ?_
  refine g_iload_n O 1 d_Cd_write_1 rfl rfl ?_
  refine g_iload_n O 2 d_Cd_write_2 rfl rfl ?_
  refine g_iconst (v := 2) O d_Cd_write_3 (by decide) ?_
  refine g_callv (N := 7) (mc := 4) (ms := 24) (av := [_, _, _]) O (Or.inl ⟨_, _, cw_Cd_usable⟩) pl_Cd (ci := 0) (q := q_Cd) rfl hR.top.1 ml_Cd_149 im_Cd_usable se_Cd_usable rfl d_Cd_write_4 rfl (Nat.le_of_ble_eq_true rfl) (Nat.le_of_ble_eq_true rfl) (Nat.le_of_ble_eq_true rfl) (Nat.le_of_ble_eq_true rfl) ?_
  refine ct_Cd_usable hst hR (fun e => ?_) (fun j i hjj ej hii ei hej => ?_) (fun j i hjj ej hii ei hej hs => ?_) (fun j i c hjj ej hii ei hej hs hc hxu => ?_) (fun j i c hjj ej hii ei hej hs hc hxu hal => ?_) (fun j i c hjj ej hii ei hej hs hc hxu hal => ?_)
  · simp [sp_write, rD, rF, rS, rU, e] at hr
    subst hr
    exact gx_out O (Nat.le_of_ble_eq_true rfl) (Nat.le_of_ble_eq_true rfl) (h w A (CO.rf hR))
  · subst ej ei
    have hclj : (nI j).toNatClampNeg = j := nI_clamp (by omega)
    have hcli : (nI i).toNatClampNeg = i := nI_clamp (by omega)
    have hDj : isD σ (nI j) = true := isD_nI hjj hD6
    have hSi : isSl (nI i) = true := isSl_nI hii
    simp [sp_write, rD, rF, rS, rU, hDj, hSi, hclj, hcli, hej] at hr
    subst hr
    exact gx_out O (Nat.le_of_ble_eq_true rfl) (Nat.le_of_ble_eq_true rfl) (h w A (CO.rf hR))
  · subst ej ei
    have hclj : (nI j).toNatClampNeg = j := nI_clamp (by omega)
    have hcli : (nI i).toNatClampNeg = i := nI_clamp (by omega)
    have hDj : isD σ (nI j) = true := isD_nI hjj hD6
    have hSi : isSl (nI i) = true := isSl_nI hii
    simp [sp_write, rD, rF, rS, rU, hDj, hSi, hclj, hcli, hej, hs] at hr
    subst hr
    exact gx_out O (Nat.le_of_ble_eq_true rfl) (Nat.le_of_ble_eq_true rfl) (h w A (CO.rf hR))
  · subst ej ei
    have hclj : (nI j).toNatClampNeg = j := nI_clamp (by omega)
    have hcli : (nI i).toNatClampNeg = i := nI_clamp (by omega)
    have hDj : isD σ (nI j) = true := isD_nI hjj hD6
    have hSi : isSl (nI i) = true := isSl_nI hii
    have hxu := Bool.or_eq_true_iff.mp hxu
    simp [sp_write, rD, rF, rS, rU, hDj, hSi, hclj, hcli, hej, hs, hxu] at hr
    subst hr
    exact gx_out O (Nat.le_of_ble_eq_true rfl) (Nat.le_of_ble_eq_true rfl) (h w A (CO.rf hR))
  · subst ej ei
    have hclj : (nI j).toNatClampNeg = j := nI_clamp (by omega)
    have hcli : (nI i).toNatClampNeg = i := nI_clamp (by omega)
    have hDj : isD σ (nI j) = true := isD_nI hjj hD6
    have hSi : isSl (nI i) = true := isSl_nI hii
    have hxu := Bool.or_eq_false_iff.mp hxu
    simp [sp_write, rD, rF, rS, rU, hDj, hSi, hclj, hcli, hej, hs, hxu, hal] at hr
    subst hr
    exact gx_out O (Nat.le_of_ble_eq_true rfl) (Nat.le_of_ble_eq_true rfl) (h w A (CO.rf hR))
  subst ej ei
  have hclj : (nI j).toNatClampNeg = j := nI_clamp (by omega)
  have hcli : (nI i).toNatClampNeg = i := nI_clamp (by omega)
  have hDj : isD σ (nI j) = true := isD_nI hjj hD6
  have hSi : isSl (nI i) = true := isSl_nI hii
  have hxu := Bool.or_eq_false_iff.mp hxu
  have hth := hI.th hc hxu.1
  have hw := hR.wf.2.2.2 c hc
  change cd_Go _ _ _ _ _ _ _ _ _ _
  first | refine g_astore O d_Cd_write_7 (Nat.le_of_ble_eq_true rfl) ?_ | refine g_astoreq O d_Cd_write_7 (Nat.le_of_ble_eq_true rfl) ?_
  first | refine g_aload O d_Cd_write_9 rfl ?_ | refine g_aloadq O d_Cd_write_9 rfl ?_
  refine g_iload_n O 3 d_Cd_write_11 rfl rfl ?_
  refine g_calls (N := 7) (mc := 1) (ms := 6) (av := [_, _]) O (Or.inl ⟨_, _, cw_Cd_targetField⟩) pl_Cd ml_Cd_153 st_Cd_targetField in_Cd rfl d_Cd_write_12 rfl (Nat.le_of_ble_eq_true rfl) (Nat.le_of_ble_eq_true rfl) (Nat.le_of_ble_eq_true rfl) (Nat.le_of_ble_eq_true rfl) ?_
  refine ct_Cd_targetField hst hR hc hth.1 (fun e => ?_) (fun g hg eg => ?_)
  · simp [sp_write, rD, rF, rS, rU, hDj, hSi, hclj, hcli, hej, hs, hxu, hal, e] at hr
    subst hr
    exact gx_out O (Nat.le_of_ble_eq_true rfl) (Nat.le_of_ble_eq_true rfl) (h w A (CO.rf hR))
  subst eg
  have hclg : (nI g).toNatClampNeg = g := nI_clamp (by omega)
  have hG : isFi (nI g) = true := isFi_nI hg
  change cd_Go _ _ _ _ _ _ _ _ _ _
  refine g_iload O d_Cd_write_15 rfl ?_
  refine g_callv (N := 0) (mc := 0) (ms := 0) (av := [_]) O (Or.inl ⟨_, _, cw_Fi_becomeNumber⟩) pl_Fi (ci := 3) (q := q_Fi) rfl (hR.f hw.1 hw.2.1 hg).2.1 ml_Cd_65 im_Fi_becomeNumber se_Fi_becomeNumber rfl d_Cd_write_17 rfl (Nat.le_of_ble_eq_true rfl) (Nat.le_of_ble_eq_true rfl) (Nat.le_of_ble_eq_true rfl) (Nat.le_of_ble_eq_true rfl) ?_
  refine ct_Fi_becomeNumber (hR.f hw.1 hw.2.1 hg).2.1 ?_
  have hR1 := rep_fN hR hw.1 hw.2.1 hg v
  have hF1 : cd_Fr w (cd_fN w (A 6 (kH σ c) (kT σ c) g) v) (cd_ow x A σ) := fr_fN (ow_at (k := 6) ⟨hw.1, hw.2.1, hg⟩)
  change cd_Go _ _ _ _ _ _ _ _ _ _
  first | refine g_aload O d_Cd_write_20 rfl ?_ | refine g_aloadq O d_Cd_write_20 rfl ?_
  refine g_callv (N := 0) (mc := 0) (ms := 0) (av := []) O (Or.inl ⟨_, _, cw_Ca_spendOneUse⟩) pl_Ca (ci := 4) (q := q_Ca) rfl (hR1.c hc).2.1 ml_Cd_163 im_Ca_spendOneUse se_Ca_spendOneUse rfl d_Cd_write_22 rfl (Nat.le_of_ble_eq_true rfl) (Nat.le_of_ble_eq_true rfl) (Nat.le_of_ble_eq_true rfl) (Nat.le_of_ble_eq_true rfl) ?_
  refine ct_Ca_spendOneUse hR1 hc (fun w' hR' hF' => ?_)
  have hDC := spendL_DC (setF σ (kH σ c) (kT σ c) g (v, none, none)) (anc (setF σ (kH σ c) (kT σ c) g (v, none, none)) c)
  have hc1 : c < sC (spendL (setF σ (kH σ c) (kT σ c) g (v, none, none)) (anc (setF σ (kH σ c) (kT σ c) g (v, none, none)) c)) := by rw [hDC.2]; exact hc
  change cd_Go _ _ _ _ _ _ _ _ _ _
  first | refine g_aload O d_Cd_write_25 rfl ?_ | refine g_aloadq O d_Cd_write_25 rfl ?_
  refine g_getV O c_Ca 4 (by decide) rfl (hR'.c hc1).2.1 lk_Cd_166 d_Cd_write_27 (hR'.c hc1).2.2.2.2.2.2.1 ?_
  refine g_iret O d_Cd_write_30 (Nat.le_of_ble_eq_true rfl) (Nat.le_of_ble_eq_true rfl) ?_
  simp [sp_write, rU, rD, rS, wrF, spend, hDj, hSi, hclj, hcli, hej, hs, hxu, hal, hclg, hG] at hr
  subst hr
  exact h w' A (CO.sm hR' (hF1.tr (fr_cg (τ := setF σ (kH σ c) (kT σ c) g (v, none, none)) ⟨rfl, rfl⟩ hF')) hDC)
set_option maxHeartbeats 4000000 in
set_option maxRecDepth 100000 in
theorem op_take {G : cd_Gl} {l : Launch} {w : cd_Wd} {Q : cd_Out → cd_Wd → Prop} (hst : l.stackTraces = false) {x : Nat} {A : cd_A} {σ : cd_S} (hR : cd_Rep w x A σ) (hI : cd_Iv σ) {d s f t' : Int32} {r : cd_R} (hr : sp_take σ d s f t' = r) (h : ∀ w' A', CO w x A σ w' A' r.2.2 → Q (oc (fun k => k) r) w') : cd_Ct G l y_Cd_take 8 6 36 [.ref x, .int d, .int s, .int f, .int t'] w Q := by
  refine cd_ofW cw_Cd_take (by simp [Value.category, cat_rf]) (Nat.le_of_ble_eq_true rfl) fun C O => ?_
  change cd_Go G l C _ 0 0 w 0 [some (.ref x), some (.int d), some (.int s), some (.int f), some (.int t'), none, none] []
  have hD6 := hR.top.2.2.2.2.2.2.2.2.2.2.2.2.2.2.2.2.2.2.2.1
  first | refine g_aload_n O 0 d_Cd_take_0 rfl rfl ?_ | refine g_aload_nq O 0 d_Cd_take_0 rfl rfl ?_
  refine g_iload_n O 1 d_Cd_take_1 rfl rfl ?_
  refine g_iload_n O 2 d_Cd_take_2 rfl rfl ?_
  refine g_bipush (v := 8) O d_Cd_take_3 (by decide) ?_
  refine g_callv (N := 7) (mc := 4) (ms := 24) (av := [_, _, _]) O (Or.inl ⟨_, _, cw_Cd_usable⟩) pl_Cd (ci := 0) (q := q_Cd) rfl hR.top.1 ml_Cd_149 im_Cd_usable se_Cd_usable rfl d_Cd_take_5 rfl (Nat.le_of_ble_eq_true rfl) (Nat.le_of_ble_eq_true rfl) (Nat.le_of_ble_eq_true rfl) (Nat.le_of_ble_eq_true rfl) ?_
  refine ct_Cd_usable hst hR (fun e => ?_) (fun j i hjj ej hii ei hej => ?_) (fun j i hjj ej hii ei hej hs => ?_) (fun j i c hjj ej hii ei hej hs hc hxu => ?_) (fun j i c hjj ej hii ei hej hs hc hxu hal => ?_) (fun j i c hjj ej hii ei hej hs hc hxu hal => ?_)
  · simp [sp_take, rD, rF, rS, rU, e] at hr
    subst hr
    exact gx_out O (Nat.le_of_ble_eq_true rfl) (Nat.le_of_ble_eq_true rfl) (h w A (CO.rf hR))
  · subst ej ei
    have hclj : (nI j).toNatClampNeg = j := nI_clamp (by omega)
    have hcli : (nI i).toNatClampNeg = i := nI_clamp (by omega)
    have hDj : isD σ (nI j) = true := isD_nI hjj hD6
    have hSi : isSl (nI i) = true := isSl_nI hii
    simp [sp_take, rD, rF, rS, rU, hDj, hSi, hclj, hcli, hej] at hr
    subst hr
    exact gx_out O (Nat.le_of_ble_eq_true rfl) (Nat.le_of_ble_eq_true rfl) (h w A (CO.rf hR))
  · subst ej ei
    have hclj : (nI j).toNatClampNeg = j := nI_clamp (by omega)
    have hcli : (nI i).toNatClampNeg = i := nI_clamp (by omega)
    have hDj : isD σ (nI j) = true := isD_nI hjj hD6
    have hSi : isSl (nI i) = true := isSl_nI hii
    simp [sp_take, rD, rF, rS, rU, hDj, hSi, hclj, hcli, hej, hs] at hr
    subst hr
    exact gx_out O (Nat.le_of_ble_eq_true rfl) (Nat.le_of_ble_eq_true rfl) (h w A (CO.rf hR))
  · subst ej ei
    have hclj : (nI j).toNatClampNeg = j := nI_clamp (by omega)
    have hcli : (nI i).toNatClampNeg = i := nI_clamp (by omega)
    have hDj : isD σ (nI j) = true := isD_nI hjj hD6
    have hSi : isSl (nI i) = true := isSl_nI hii
    have hxu := Bool.or_eq_true_iff.mp hxu
    simp [sp_take, rD, rF, rS, rU, hDj, hSi, hclj, hcli, hej, hs, hxu] at hr
    subst hr
    exact gx_out O (Nat.le_of_ble_eq_true rfl) (Nat.le_of_ble_eq_true rfl) (h w A (CO.rf hR))
  · subst ej ei
    have hclj : (nI j).toNatClampNeg = j := nI_clamp (by omega)
    have hcli : (nI i).toNatClampNeg = i := nI_clamp (by omega)
    have hDj : isD σ (nI j) = true := isD_nI hjj hD6
    have hSi : isSl (nI i) = true := isSl_nI hii
    have hxu := Bool.or_eq_false_iff.mp hxu
    simp [sp_take, rD, rF, rS, rU, hDj, hSi, hclj, hcli, hej, hs, hxu, hal] at hr
    subst hr
    exact gx_out O (Nat.le_of_ble_eq_true rfl) (Nat.le_of_ble_eq_true rfl) (h w A (CO.rf hR))
  subst ej ei
  have hclj : (nI j).toNatClampNeg = j := nI_clamp (by omega)
  have hcli : (nI i).toNatClampNeg = i := nI_clamp (by omega)
  have hDj : isD σ (nI j) = true := isD_nI hjj hD6
  have hSi : isSl (nI i) = true := isSl_nI hii
  have hxu := Bool.or_eq_false_iff.mp hxu
  have hth := hI.th hc hxu.1
  have hw := hR.wf.2.2.2 c hc
  change cd_Go _ _ _ _ _ _ _ _ _ _
  first | refine g_astore O d_Cd_take_8 (Nat.le_of_ble_eq_true rfl) ?_ | refine g_astoreq O d_Cd_take_8 (Nat.le_of_ble_eq_true rfl) ?_
  first | refine g_aload O d_Cd_take_10 rfl ?_ | refine g_aloadq O d_Cd_take_10 rfl ?_
  refine g_iload_n O 3 d_Cd_take_12 rfl rfl ?_
  refine g_calls (N := 7) (mc := 1) (ms := 6) (av := [_, _]) O (Or.inl ⟨_, _, cw_Cd_targetField⟩) pl_Cd ml_Cd_153 st_Cd_targetField in_Cd rfl d_Cd_take_13 rfl (Nat.le_of_ble_eq_true rfl) (Nat.le_of_ble_eq_true rfl) (Nat.le_of_ble_eq_true rfl) (Nat.le_of_ble_eq_true rfl) ?_
  refine ct_Cd_targetField hst hR hc hth.1 (fun e => ?_) (fun g hg eg => ?_)
  · simp [sp_take, rD, rF, rS, rU, hDj, hSi, hclj, hcli, hej, hs, hxu, hal, e] at hr
    subst hr
    exact gx_out O (Nat.le_of_ble_eq_true rfl) (Nat.le_of_ble_eq_true rfl) (h w A (CO.rf hR))
  subst eg
  have hclg : (nI g).toNatClampNeg = g := nI_clamp (by omega)
  have hG : isFi (nI g) = true := isFi_nI hg
  change cd_Go _ _ _ _ _ _ _ _ _ _
  first | refine g_astore O d_Cd_take_16 (Nat.le_of_ble_eq_true rfl) ?_ | refine g_astoreq O d_Cd_take_16 (Nat.le_of_ble_eq_true rfl) ?_
  refine g_iload O d_Cd_take_18 rfl ?_
  refine g_calls (N := 0) (mc := 0) (ms := 0) (av := [_]) O (Or.inl ⟨_, _, cw_Cd_isSlot⟩) pl_Cd ml_Cd_81 st_Cd_isSlot in_Cd rfl d_Cd_take_20 rfl (Nat.le_of_ble_eq_true rfl) (Nat.le_of_ble_eq_true rfl) (Nat.le_of_ble_eq_true rfl) (Nat.le_of_ble_eq_true rfl) ?_
  refine ct_Cd_isSlot ?_
  change cd_Go _ _ _ _ _ _ _ _ _ _
  refine g_if_ne  O 36 d_Cd_take_23 (by decide) (fun c23 => ?_) (fun c23 => ?_)
  · have hn := cd_b_ne.mp c23
    obtain ⟨t, hit, rfl⟩ := isSl_of hn
    have hclt : (nI t).toNatClampNeg = t := nI_clamp (by omega)
    first | refine g_aload O d_Cd_take_36 rfl ?_ | refine g_aloadq O d_Cd_take_36 rfl ?_
    refine g_getOV O c_Fi 2 (by decide) rfl (hR.f hw.1 hw.2.1 hg).2.1 lk_Cd_188 d_Cd_take_38 (hR.f hw.1 hw.2.1 hg).2.2.2.2 ?_
    refine g_ifnonnull O 54 d_Cd_take_41 (by decide) (fun x41 c41 => ?_) (fun c41 => ?_)
    · obtain ⟨p, hcp⟩ : ∃ p, (sF σ (kH σ c) (kT σ c) g).2.2 = some p := by cases hz : (sF σ (kH σ c) (kT σ c) g).2.2 with
        | none => rw [hz] at c41; cases c41
        | some p => exact ⟨p, rfl⟩
      have hpc : p < sC σ := hR.wf.2.1 _ _ _ p hw.1 hw.2.1 hg hcp
      first | refine g_aload O d_Cd_take_54 rfl ?_ | refine g_aloadq O d_Cd_take_54 rfl ?_
      refine g_callv (N := 0) (mc := 0) (ms := 0) (av := []) O (Or.inl ⟨_, _, cw_Ca_spendOneUse⟩) pl_Ca (ci := 4) (q := q_Ca) rfl (hR.c hc).2.1 ml_Cd_163 im_Ca_spendOneUse se_Ca_spendOneUse rfl d_Cd_take_56 rfl (Nat.le_of_ble_eq_true rfl) (Nat.le_of_ble_eq_true rfl) (Nat.le_of_ble_eq_true rfl) (Nat.le_of_ble_eq_true rfl) ?_
      refine ct_Ca_spendOneUse hR hc (fun w' hR' hF' => ?_)
      have hDC := spendL_DC σ (anc σ c)
      have hSD := spendL_D σ (anc σ c)
      have hh1 : kH σ c < sD (spendL σ (anc σ c)) := by rw [hDC.1]; exact hw.1
      have hj1 : j < sD (spendL σ (anc σ c)) := by rw [hDC.1]; exact hjj
      have hp1 : p < sC (spendL σ (anc σ c)) := by rw [hDC.2]; exact hpc
      change cd_Go _ _ _ _ _ _ _ _ _ _
      first | refine g_aload_n O 0 d_Cd_take_59 rfl rfl ?_ | refine g_aload_nq O 0 d_Cd_take_59 rfl rfl ?_
      refine g_iload_n O 1 d_Cd_take_60 rfl rfl ?_
      refine g_callv (N := 6) (mc := 1) (ms := 6) (av := [_]) O (Or.inl ⟨_, _, cw_Cd_livingDomain⟩) pl_Cd (ci := 0) (q := q_Cd) rfl hR'.top.1 ml_Cd_40 im_Cd_livingDomain se_Cd_livingDomain rfl d_Cd_take_61 rfl (Nat.le_of_ble_eq_true rfl) (Nat.le_of_ble_eq_true rfl) (Nat.le_of_ble_eq_true rfl) (Nat.le_of_ble_eq_true rfl) ?_
      refine ct_Cd_livingDomain hst hR' (fun e => ?_) (fun j2 hj2 ej he => ?_) (fun j2 hj2 ej he => ?_)
      · rw [isD_nI hj1 hR'.top.2.2.2.2.2.2.2.2.2.2.2.2.2.2.2.2.2.2.2.1] at e; cases e
      · obtain rfl : j = j2 := (nI_eq (by omega) (by have := hR'.top.2.2.2.2.2.2.2.2.2.2.2.2.2.2.2.2.2.2.2.1; omega)).mp ej
        rw [hSD.2.1, hej] at he; cases he
      obtain rfl : j = j2 := (nI_eq (by omega) (by have := hR'.top.2.2.2.2.2.2.2.2.2.2.2.2.2.2.2.2.2.2.2.1; omega)).mp ej
      change cd_Go _ _ _ _ _ _ _ _ _ _
      refine g_iload O d_Cd_take_64 rfl ?_
      first | refine g_aload O d_Cd_take_66 rfl ?_ | refine g_aloadq O d_Cd_take_66 rfl ?_
      refine g_getS O c_Fi 2 (by decide) rfl (hR'.f hh1 hw.2.1 hg).2.1 lk_Cd_188 d_Cd_take_68 (show cd_O w' 98 _ 0 = some (A 8 p 0 0) from by rw [(hR'.f hh1 hw.2.1 hg).2.2.2.2, hSD.2.2.2.1, hcp]; rfl) ?_
      refine g_callv (N := 0) (mc := 0) (ms := 0) (av := [_, _]) O (Or.inl ⟨_, _, cw_Do_replaceSlot⟩) pl_Do (ci := 1) (q := q_Do) rfl (hR'.d hj1).2.1 ml_Cd_137 im_Do_replaceSlot se_Do_replaceSlot rfl d_Cd_take_71 rfl (Nat.le_of_ble_eq_true rfl) (Nat.le_of_ble_eq_true rfl) (Nat.le_of_ble_eq_true rfl) (Nat.le_of_ble_eq_true rfl) ?_
      refine ct_Do_replaceSlot hR' hj1 hit hp1 (fun w2 hR2 hF2 => ?_)
      change cd_Go _ _ _ _ _ _ _ _ _ _
      refine g_iret O d_Cd_take_74 (Nat.le_of_ble_eq_true rfl) (Nat.le_of_ble_eq_true rfl) ?_
      simp [sp_take, rU, rD, rS, spend, hn, hclt, hcp, hDj, hSi, hclj, hcli, hej, hs, hxu, hal, hclg, hG] at hr
      subst hr
      exact h w2 A (CO.sm hR2 (hF'.tr (fr_cg hDC hF2)) hDC)
    · have hcp : (sF σ (kH σ c) (kT σ c) g).2.2 = none := by cases hz : (sF σ (kH σ c) (kT σ c) g).2.2 with
        | none => rfl
        | some p => rw [hz] at c41; cases c41
      refine g_throw (E := 6) O hst ew_6 (by decide +kernel) kl_Cd_48 ia_ArithmeticException in_ArithmeticException ml_Cd_52 ss_Cd_192 d_Cd_take_44 d_Cd_take_47 d_Cd_take_48 d_Cd_take_50 d_Cd_take_53 rfl (Nat.le_of_ble_eq_true rfl) (Nat.le_of_ble_eq_true rfl) (Nat.le_of_ble_eq_true rfl) (Nat.le_of_ble_eq_true rfl) (Nat.le_of_ble_eq_true rfl) (Nat.le_of_ble_eq_true rfl) ?_
      simp [sp_take, rD, rF, rS, rU, hDj, hSi, hclj, hcli, hej, hs, hxu, hal, hclg, hG, hn, hcp] at hr
      subst hr
      exact h w A (CO.rf hR)
  · have hn := cd_b_eq.mp c23
    refine g_throw (E := 5) O hst ew_5 (by decide +kernel) kl_Cd_84 ia_IndexOutOfBoundsException in_IndexOutOfBoundsException ml_Cd_88 ss_Cd_86 d_Cd_take_26 d_Cd_take_29 d_Cd_take_30 d_Cd_take_32 d_Cd_take_35 rfl (Nat.le_of_ble_eq_true rfl) (Nat.le_of_ble_eq_true rfl) (Nat.le_of_ble_eq_true rfl) (Nat.le_of_ble_eq_true rfl) (Nat.le_of_ble_eq_true rfl) (Nat.le_of_ble_eq_true rfl) ?_
    simp [sp_take, rD, rF, rS, rU, hDj, hSi, hclj, hcli, hej, hs, hxu, hal, hclg, hG, hn] at hr
    subst hr
    exact h w A (CO.rf hR)
set_option maxHeartbeats 4000000 in
set_option maxRecDepth 100000 in
theorem op_free {G : cd_Gl} {l : Launch} {w : cd_Wd} {Q : cd_Out → cd_Wd → Prop} (hst : l.stackTraces = false) {x : Nat} {A : cd_A} {σ : cd_S} (hR : cd_Rep w x A σ) (hI : cd_Iv σ) {d s : Int32} {r : cd_R} (hr : sp_free σ d s = r) (h : ∀ w' A', CO w x A σ w' A' r.2.2 → Q (oc (fun k => k) r) w') : cd_Ct G l y_Cd_free 8 4 24 [.ref x, .int d, .int s] w Q := by
  refine cd_ofW cw_Cd_free (by simp [Value.category, cat_rf]) (Nat.le_of_ble_eq_true rfl) fun C O => ?_
  change cd_Go G l C _ 0 0 w 0 [some (.ref x), some (.int d), some (.int s), none, none] []
  have hD6 := hR.top.2.2.2.2.2.2.2.2.2.2.2.2.2.2.2.2.2.2.2.1
  first | refine g_aload_n O 0 d_Cd_free_0 rfl rfl ?_ | refine g_aload_nq O 0 d_Cd_free_0 rfl rfl ?_
  refine g_iload_n O 1 d_Cd_free_1 rfl rfl ?_
  refine g_iload_n O 2 d_Cd_free_2 rfl rfl ?_
  refine g_bipush (v := 16) O d_Cd_free_3 (by decide) ?_
  refine g_callv (N := 7) (mc := 4) (ms := 24) (av := [_, _, _]) O (Or.inl ⟨_, _, cw_Cd_usable⟩) pl_Cd (ci := 0) (q := q_Cd) rfl hR.top.1 ml_Cd_149 im_Cd_usable se_Cd_usable rfl d_Cd_free_5 rfl (Nat.le_of_ble_eq_true rfl) (Nat.le_of_ble_eq_true rfl) (Nat.le_of_ble_eq_true rfl) (Nat.le_of_ble_eq_true rfl) ?_
  refine ct_Cd_usable hst hR (fun e => ?_) (fun j i hjj ej hii ei hej => ?_) (fun j i hjj ej hii ei hej hs => ?_) (fun j i c hjj ej hii ei hej hs hc hxu => ?_) (fun j i c hjj ej hii ei hej hs hc hxu hal => ?_) (fun j i c hjj ej hii ei hej hs hc hxu hal => ?_)
  · simp [sp_free, rD, rF, rS, rU, e] at hr
    subst hr
    exact gx_out O (Nat.le_of_ble_eq_true rfl) (Nat.le_of_ble_eq_true rfl) (h w A (CO.rf hR))
  · subst ej ei
    have hclj : (nI j).toNatClampNeg = j := nI_clamp (by omega)
    have hcli : (nI i).toNatClampNeg = i := nI_clamp (by omega)
    have hDj : isD σ (nI j) = true := isD_nI hjj hD6
    have hSi : isSl (nI i) = true := isSl_nI hii
    simp [sp_free, rD, rF, rS, rU, hDj, hSi, hclj, hcli, hej] at hr
    subst hr
    exact gx_out O (Nat.le_of_ble_eq_true rfl) (Nat.le_of_ble_eq_true rfl) (h w A (CO.rf hR))
  · subst ej ei
    have hclj : (nI j).toNatClampNeg = j := nI_clamp (by omega)
    have hcli : (nI i).toNatClampNeg = i := nI_clamp (by omega)
    have hDj : isD σ (nI j) = true := isD_nI hjj hD6
    have hSi : isSl (nI i) = true := isSl_nI hii
    simp [sp_free, rD, rF, rS, rU, hDj, hSi, hclj, hcli, hej, hs] at hr
    subst hr
    exact gx_out O (Nat.le_of_ble_eq_true rfl) (Nat.le_of_ble_eq_true rfl) (h w A (CO.rf hR))
  · subst ej ei
    have hclj : (nI j).toNatClampNeg = j := nI_clamp (by omega)
    have hcli : (nI i).toNatClampNeg = i := nI_clamp (by omega)
    have hDj : isD σ (nI j) = true := isD_nI hjj hD6
    have hSi : isSl (nI i) = true := isSl_nI hii
    have hxu := Bool.or_eq_true_iff.mp hxu
    simp [sp_free, rD, rF, rS, rU, hDj, hSi, hclj, hcli, hej, hs, hxu] at hr
    subst hr
    exact gx_out O (Nat.le_of_ble_eq_true rfl) (Nat.le_of_ble_eq_true rfl) (h w A (CO.rf hR))
  · subst ej ei
    have hclj : (nI j).toNatClampNeg = j := nI_clamp (by omega)
    have hcli : (nI i).toNatClampNeg = i := nI_clamp (by omega)
    have hDj : isD σ (nI j) = true := isD_nI hjj hD6
    have hSi : isSl (nI i) = true := isSl_nI hii
    have hxu := Bool.or_eq_false_iff.mp hxu
    simp [sp_free, rD, rF, rS, rU, hDj, hSi, hclj, hcli, hej, hs, hxu, hal] at hr
    subst hr
    exact gx_out O (Nat.le_of_ble_eq_true rfl) (Nat.le_of_ble_eq_true rfl) (h w A (CO.rf hR))
  subst ej ei
  have hclj : (nI j).toNatClampNeg = j := nI_clamp (by omega)
  have hcli : (nI i).toNatClampNeg = i := nI_clamp (by omega)
  have hDj : isD σ (nI j) = true := isD_nI hjj hD6
  have hSi : isSl (nI i) = true := isSl_nI hii
  have hxu := Bool.or_eq_false_iff.mp hxu
  have hth := hI.th hc hxu.1
  have hw := hR.wf.2.2.2 c hc
  change cd_Go _ _ _ _ _ _ _ _ _ _
  first | refine g_astore_n O 3 d_Cd_free_8 rfl (Nat.le_of_ble_eq_true rfl) ?_ | refine g_astore_nq O 3 d_Cd_free_8 rfl (Nat.le_of_ble_eq_true rfl) ?_
  first | refine g_aload_n O 3 d_Cd_free_9 rfl rfl ?_ | refine g_aload_nq O 3 d_Cd_free_9 rfl rfl ?_
  refine g_callv (N := 0) (mc := 0) (ms := 0) (av := []) O (Or.inl ⟨_, _, cw_Ca_spendOneUse⟩) pl_Ca (ci := 4) (q := q_Ca) rfl (hR.c hc).2.1 ml_Cd_163 im_Ca_spendOneUse se_Ca_spendOneUse rfl d_Cd_free_10 rfl (Nat.le_of_ble_eq_true rfl) (Nat.le_of_ble_eq_true rfl) (Nat.le_of_ble_eq_true rfl) (Nat.le_of_ble_eq_true rfl) ?_
  refine ct_Ca_spendOneUse hR hc (fun w' hR' hF' => ?_)
  have hDC := spendL_DC σ (anc σ c)
  have hSD := spendL_D σ (anc σ c)
  have hh1 : kH σ c < sD (spendL σ (anc σ c)) := by rw [hDC.1]; exact hw.1
  have hc1 : c < sC (spendL σ (anc σ c)) := by rw [hDC.2]; exact hc
  change cd_Go _ _ _ _ _ _ _ _ _ _
  first | refine g_aload_n O 3 d_Cd_free_13 rfl rfl ?_ | refine g_aload_nq O 3 d_Cd_free_13 rfl rfl ?_
  refine g_getS O c_Ca 0 (by decide) rfl (hR'.c hc1).2.1 lk_Cd_130 d_Cd_free_14 (show cd_O w' 128 _ 0 = some (A 1 (kH σ c) 0 0) from by rw [(hR'.c hc1).2.2.1, hSD.2.2.2.2.2.1]) ?_
  first | refine g_aload_n O 3 d_Cd_free_17 rfl rfl ?_ | refine g_aload_nq O 3 d_Cd_free_17 rfl rfl ?_
  refine g_getV O c_Ca 1 (by decide) rfl (hR'.c hc1).2.1 lk_Cd_134 d_Cd_free_18 (show cd_I w' 129 _ 0 = nI (kT σ c) from by rw [(hR'.c hc1).2.2.2.1, hSD.2.2.2.2.2.2.1]) ?_
  refine g_callv (N := 2) (mc := 0) (ms := 0) (av := [_]) O (Or.inl ⟨_, _, cw_Do_removeObject⟩) pl_Do (ci := 1) (q := q_Do) rfl (hR'.d hh1).2.1 ml_Cd_194 im_Do_removeObject se_Do_removeObject rfl d_Cd_free_21 rfl (Nat.le_of_ble_eq_true rfl) (Nat.le_of_ble_eq_true rfl) (Nat.le_of_ble_eq_true rfl) (Nat.le_of_ble_eq_true rfl) ?_
  refine ct_Do_removeObject hR' hh1 hw.2.1 (fun w2 hR2 hF2 => ?_)
  have hD2 := remO_DC (spendL σ (anc σ c)) (kH σ c) (kT σ c) 12
  change cd_Go _ _ _ _ _ _ _ _ _ _
  refine g_istore O d_Cd_free_24 (Nat.le_of_ble_eq_true rfl) ?_
  first | refine g_aload_n O 0 d_Cd_free_26 rfl rfl ?_ | refine g_aload_nq O 0 d_Cd_free_26 rfl rfl ?_
  refine g_callv (N := 2) (mc := 0) (ms := 0) (av := []) O (Or.inl ⟨_, _, cw_Cd_spreadDeath⟩) pl_Cd (ci := 0) (q := q_Cd) rfl hR2.top.1 ml_Cd_146 im_Cd_spreadDeath se_Cd_spreadDeath rfl d_Cd_free_27 rfl (Nat.le_of_ble_eq_true rfl) (Nat.le_of_ble_eq_true rfl) (Nat.le_of_ble_eq_true rfl) (Nat.le_of_ble_eq_true rfl) ?_
  refine ct_Cd_spreadDeath hR2 (fun w3 hR3 hF3 => ?_)
  change cd_Go _ _ _ _ _ _ _ _ _ _
  refine g_pop O d_Cd_free_30 (by first | rfl | exact cat_rf _) ?_
  refine g_iload O d_Cd_free_31 rfl ?_
  refine g_iret O d_Cd_free_33 (Nat.le_of_ble_eq_true rfl) (Nat.le_of_ble_eq_true rfl) ?_
  simp [sp_free, rU, rD, rS, spend, hDj, hSi, hclj, hcli, hej, hs, hxu, hal] at hr
  subst hr
  exact h w3 A (CO.sm hR3 (hF'.tr ((fr_cg hDC hF2).tr (fr_cg (hDC.tr hD2) hF3))) ((hDC.tr hD2).tr (sprd_DC _ _)))
set_option maxHeartbeats 4000000 in
set_option maxRecDepth 100000 in
theorem op_end {G : cd_Gl} {l : Launch} {w : cd_Wd} {Q : cd_Out → cd_Wd → Prop} (hst : l.stackTraces = false) {x : Nat} {A : cd_A} {σ : cd_S} (hR : cd_Rep w x A σ) {d : Int32} {r : cd_R} (hr : sp_end σ d = r) (h : ∀ w' A', CO w x A σ w' A' r.2.2 → Q (oc (fun k => k) r) w') : cd_Ct G l y_Cd_end 7 1 6 [.ref x, .int d] w Q := by
  refine cd_ofW cw_Cd_end (by simp [Value.category, cat_rf]) (Nat.le_of_ble_eq_true rfl) fun C O => ?_
  change cd_Go G l C _ 0 0 w 0 [some (.ref x), some (.int d)] []
  have hD6 := hR.top.2.2.2.2.2.2.2.2.2.2.2.2.2.2.2.2.2.2.2.1
  first | refine g_aload_n O 0 d_Cd_end_0 rfl rfl ?_ | refine g_aload_nq O 0 d_Cd_end_0 rfl rfl ?_
  refine g_iload_n O 1 d_Cd_end_1 rfl rfl ?_
  refine g_callv (N := 6) (mc := 1) (ms := 6) (av := [_]) O (Or.inl ⟨_, _, cw_Cd_livingDomain⟩) pl_Cd (ci := 0) (q := q_Cd) rfl hR.top.1 ml_Cd_40 im_Cd_livingDomain se_Cd_livingDomain rfl d_Cd_end_2 rfl (Nat.le_of_ble_eq_true rfl) (Nat.le_of_ble_eq_true rfl) (Nat.le_of_ble_eq_true rfl) (Nat.le_of_ble_eq_true rfl) ?_
  refine ct_Cd_livingDomain hst hR (fun e => ?_) (fun j hjj ejj hej => ?_) (fun j hjj ejj hej => ?_)
  · simp [sp_end, rD, rF, rS, rU, e] at hr
    subst hr
    exact gx_out O (Nat.le_of_ble_eq_true rfl) (Nat.le_of_ble_eq_true rfl) (h w A (CO.rf hR))
  · subst ejj
    have hclj : (nI j).toNatClampNeg = j := nI_clamp (by omega)
    have hDj : isD σ (nI j) = true := isD_nI hjj hD6
    simp [sp_end, rD, rF, rS, rU, hclj, hDj, hej] at hr
    subst hr
    exact gx_out O (Nat.le_of_ble_eq_true rfl) (Nat.le_of_ble_eq_true rfl) (h w A (CO.rf hR))
  subst ejj
  have hclj : (nI j).toNatClampNeg = j := nI_clamp (by omega)
  have hDj : isD σ (nI j) = true := isD_nI hjj hD6
  change cd_Go _ _ _ _ _ _ _ _ _ _
  refine g_callv (N := 0) (mc := 0) (ms := 0) (av := []) O (Or.inl ⟨_, _, cw_Do_finish⟩) pl_Do (ci := 1) (q := q_Do) rfl (hR.d hjj).2.1 ml_Cd_198 im_Do_finish se_Do_finish rfl d_Cd_end_5 rfl (Nat.le_of_ble_eq_true rfl) (Nat.le_of_ble_eq_true rfl) (Nat.le_of_ble_eq_true rfl) (Nat.le_of_ble_eq_true rfl) ?_
  refine ct_Do_finish hR hjj (fun w' hR' hF' => ?_)
  change cd_Go _ _ _ _ _ _ _ _ _ _
  first | refine g_aload_n O 0 d_Cd_end_8 rfl rfl ?_ | refine g_aload_nq O 0 d_Cd_end_8 rfl rfl ?_
  refine g_callv (N := 2) (mc := 0) (ms := 0) (av := []) O (Or.inl ⟨_, _, cw_Cd_spreadDeath⟩) pl_Cd (ci := 0) (q := q_Cd) rfl hR'.top.1 ml_Cd_146 im_Cd_spreadDeath se_Cd_spreadDeath rfl d_Cd_end_9 rfl (Nat.le_of_ble_eq_true rfl) (Nat.le_of_ble_eq_true rfl) (Nat.le_of_ble_eq_true rfl) (Nat.le_of_ble_eq_true rfl) ?_
  refine ct_Cd_spreadDeath hR' (fun w2 hR2 hF2 => ?_)
  change cd_Go _ _ _ _ _ _ _ _ _ _
  refine g_iret O d_Cd_end_12 (Nat.le_of_ble_eq_true rfl) (Nat.le_of_ble_eq_true rfl) ?_
  simp [sp_end, rD, hclj, hDj, hej] at hr
  subst hr
  exact h w2 A (CO.sm hR2 (hF'.tr (fr_cg (finD_DC σ j) hF2)) ((finD_DC σ j).tr (sprd_DC _ _)))
