set_option maxHeartbeats 4000000 in
set_option maxRecDepth 100000 in
theorem ct_Ca_spendOneUse9 {G : cd_Gl} {l : Launch} {w : cd_Wd} {Q : cd_Out → cd_Wd → Prop} {x : Nat} {A : cd_A} {σ : cd_S} (hR : cd_Rep w x A σ) {c : Nat} (hc : c < sC σ) (h : ∀ w', cd_Rep w' x A (spendL σ (anc σ c)) → cd_Fr w w' (cd_ow x A σ) → cd_I w' 160 (A 9 0 0 0) 0 = cd_I w 160 (A 9 0 0 0) 0 → Q (.inl none) w') : cd_Ct G l y_Ca_spendOneUse 0 0 0 [.ref (A 8 c 0 0)] w Q := by
  refine cd_ofW cw_Ca_spendOneUse (by simp [Value.category, cat_rf]) (Nat.le_of_ble_eq_true rfl) fun C O => ?_
  change cd_Go G l C _ 0 0 w 0 [some (.ref (A 8 c 0 0)), none] []
  have loop : ∀ (n : Nat) (w : cd_Wd) (σ : cd_S), cd_Rep w x A σ → ∀ c, c < n → c < sC σ → (∀ w', cd_Rep w' x A (spendL σ (anc σ c)) → cd_Fr w w' (cd_ow x A σ) → cd_I w' 160 (A 9 0 0 0) 0 = cd_I w 160 (A 9 0 0 0) 0 → Q (.inl none) w') → ∀ a0, cd_Go G l C (cd_MQ G (cx_s C) (cx_b C) 0 0 Q) 0 0 w 2 [some (.ref a0), some (.ref (A 8 c 0 0))] [] := by
    intro n
    induction n with
    | zero => intro w σ hR c h; omega
    | succ n ih =>
      intro w σ hR c hn hc h a0
      have hpar : ∀ c, c < sC σ → ∀ q, kP σ c = some q → q < c := fun c hc => (hR.wf.2.2.2 c hc).2.2
      rw [anc_eq hpar hc] at h
      have tail : ∀ w1, cd_Rep w1 x A (spend1 σ c) → cd_Fr w w1 (cd_ow x A σ) → cd_I w1 160 (A 9 0 0 0) 0 = cd_I w 160 (A 9 0 0 0) 0 → cd_Go G l C (cd_MQ G (cx_s C) (cx_b C) 0 0 Q) 0 0 w1 23 [some (.ref a0), some (.ref (A 8 c 0 0))] [] := by
        intro w1 hR1 hF1 h91
        obtain ⟨z1, z2, z3, -⟩ := spend1_D σ c
        have hc1 : c < sC (spend1 σ c) := by rw [z2]; exact hc
        have q := (hR1.c hc1).2.2.2.2.1
        rw [z3 c] at q
        refine g_aload_n O 1 d_Ca_spendOneUse_23 rfl rfl ?_
        cases hp : kP σ c with
        | none =>
          rw [hp] at h q
          refine g_getOV O c_Ca 2 (by decide) rfl (hR1.c hc1).2.1 lk_Ca_17 d_Ca_spendOneUse_24 (show cd_O w1 (32 * 4 + 2) (A 8 c 0 0) 0 = none from q) ?_
          first | refine g_astore_n O 1 d_Ca_spendOneUse_27 rfl (Nat.le_of_ble_eq_true rfl) ?_ | refine g_astore_nq O 1 d_Ca_spendOneUse_27 rfl (Nat.le_of_ble_eq_true rfl) ?_
          refine g_goto O 2 d_Ca_spendOneUse_28 (by decide) ?_
          first | refine g_aload_n O 1 d_Ca_spendOneUse_2 rfl rfl ?_ | refine g_aload_nq O 1 d_Ca_spendOneUse_2 rfl rfl ?_
          refine g_ifnullN O 31 d_Ca_spendOneUse_3 (by decide) ?_
          refine g_ret O d_Ca_spendOneUse_31 (Nat.le_of_ble_eq_true rfl) (Nat.le_of_ble_eq_true rfl) ?_
          exact h w1 hR1 hF1 h91
        | some p =>
          rw [hp] at h q
          have hpc := hpar c hc p hp
          refine g_getS O c_Ca 2 (by decide) rfl (hR1.c hc1).2.1 lk_Ca_17 d_Ca_spendOneUse_24 q ?_
          first | refine g_astore_n O 1 d_Ca_spendOneUse_27 rfl (Nat.le_of_ble_eq_true rfl) ?_ | refine g_astore_nq O 1 d_Ca_spendOneUse_27 rfl (Nat.le_of_ble_eq_true rfl) ?_
          refine g_goto O 2 d_Ca_spendOneUse_28 (by decide) ?_
          refine ih w1 (spend1 σ c) hR1 p (by omega) (by rw [z2]; omega) (fun w2 hR2 hF2 h92 => ?_) a0
          rw [anc_cg z3] at hR2
          exact h w2 hR2 (hF1.tr (hF2.up fun b _ hb => by
            rcases hb with rfl | ⟨k1, d1, o1, f1, hv, rfl⟩
            · exact Or.inl rfl
            · exact Or.inr ⟨k1, d1, o1, f1, by simpa only [cd_va, z1, z2] using hv, rfl⟩)) (h92.trans h91)
      first | refine g_aload_n O 1 d_Ca_spendOneUse_2 rfl rfl ?_ | refine g_aload_nq O 1 d_Ca_spendOneUse_2 rfl rfl ?_
      refine g_ifnullS O d_Ca_spendOneUse_3 ?_
      first | refine g_aload_n O 1 d_Ca_spendOneUse_6 rfl rfl ?_ | refine g_aload_nq O 1 d_Ca_spendOneUse_6 rfl rfl ?_
      refine g_getV O c_Ca 4 (by decide) rfl (hR.c hc).2.1 lk_Ca_24 d_Ca_spendOneUse_7 (hR.c hc).2.2.2.2.2.2.1 ?_
      refine g_if_le  O 23 d_Ca_spendOneUse_10 (by decide) (fun c10 => ?_) (fun c10 => ?_)
      · exact tail w (by unfold spend1; rw [if_neg (Int32.not_lt.mpr c10)]; exact hR) cd_Fr.rf rfl
      · first | refine g_aload_n O 1 d_Ca_spendOneUse_13 rfl rfl ?_ | refine g_aload_nq O 1 d_Ca_spendOneUse_13 rfl rfl ?_
        refine g_dup O d_Ca_spendOneUse_14 (by first | rfl | exact cat_rf _) ?_
        refine g_getV O c_Ca 4 (by decide) rfl (hR.c hc).2.1 lk_Ca_24 d_Ca_spendOneUse_15 (hR.c hc).2.2.2.2.2.2.1 ?_
        refine g_iconst (v := 1) O d_Ca_spendOneUse_18 (by decide) ?_
        refine g_isub O d_Ca_spendOneUse_19 ?_
        refine g_putI O c_Ca 4 (by decide) rfl (hR.c hc).2.1 (Or.inl rfl) (Or.inl rfl) lk_Ca_24 d_Ca_spendOneUse_20 ?_
        exact tail _ (by unfold spend1; rw [if_pos (Int32.not_le.mp c10)]; exact rep_U hR hc _) (cd_Fr.wI (ow_at (k := 8) ⟨hc, rfl, rfl⟩)) (by rw [I_wI, if_neg (by simp)])
  first | refine g_aload_n O 0 d_Ca_spendOneUse_0 rfl rfl ?_ | refine g_aload_nq O 0 d_Ca_spendOneUse_0 rfl rfl ?_
  first | refine g_astore_n O 1 d_Ca_spendOneUse_1 rfl (Nat.le_of_ble_eq_true rfl) ?_ | refine g_astore_nq O 1 d_Ca_spendOneUse_1 rfl (Nat.le_of_ble_eq_true rfl) ?_
  exact loop (c + 1) w σ hR c (by omega) hc h _
set_option maxHeartbeats 4000000 in
set_option maxRecDepth 100000 in
theorem op_pass {G : cd_Gl} {l : Launch} {w : cd_Wd} {Q : cd_Out → cd_Wd → Prop} (hst : l.stackTraces = false) {x : Nat} {A : cd_A} {σ : cd_S} (hR : cd_Rep w x A σ) (hI : cd_Iv σ) {d s f o : Int32} {r : cd_R} (hr : sp_pass σ d s f o = r) (h : ∀ w' A', CO w x A σ w' A' r.2.2 → Q (oc (fun k => k) r) w') : cd_Ct G l y_Cd_pass 15 7 42 [.ref x, .int d, .int s, .int f, .int o] w Q := by
  refine cd_ofW cw_Cd_pass (by simp [Value.category, cat_rf]) (Nat.le_of_ble_eq_true rfl) fun C O => ?_
  change cd_Go G l C _ 0 0 w 0 [some (.ref x), some (.int d), some (.int s), some (.int f), some (.int o), none, none, none] []
  have hD6 := hR.top.2.2.2.2.2.2.2.2.2.2.2.2.2.2.2.2.2.2.2.1
  first | refine g_aload_n O 0 d_Cd_pass_0 rfl rfl ?_ | refine g_aload_nq O 0 d_Cd_pass_0 rfl rfl ?_
  refine g_iload_n O 1 d_Cd_pass_1 rfl rfl ?_
  refine g_iload_n O 2 d_Cd_pass_2 rfl rfl ?_
  refine g_iconst (v := 4) O d_Cd_pass_3 (by decide) ?_
  refine g_callv (N := 7) (mc := 4) (ms := 24) (av := [_, _, _]) O (Or.inl ⟨_, _, cw_Cd_usable⟩) pl_Cd (ci := 0) (q := q_Cd) rfl hR.top.1 ml_Cd_149 im_Cd_usable se_Cd_usable rfl d_Cd_pass_4 rfl (Nat.le_of_ble_eq_true rfl) (Nat.le_of_ble_eq_true rfl) (Nat.le_of_ble_eq_true rfl) (Nat.le_of_ble_eq_true rfl) ?_
  refine ct_Cd_usable hst hR (fun e => ?_) (fun j i hjj ej hii ei hej => ?_) (fun j i hjj ej hii ei hej hs => ?_) (fun j i c hjj ej hii ei hej hs hc hxu => ?_) (fun j i c hjj ej hii ei hej hs hc hxu hal => ?_) (fun j i c hjj ej hii ei hej hs hc hxu hal => ?_)
  · simp [sp_pass, rD, rF, rS, rU, e] at hr
    subst hr
    exact gx_out O (Nat.le_of_ble_eq_true rfl) (Nat.le_of_ble_eq_true rfl) (h w A (CO.rf hR))
  · subst ej ei
    have hclj : (nI j).toNatClampNeg = j := nI_clamp (by omega)
    have hcli : (nI i).toNatClampNeg = i := nI_clamp (by omega)
    have hDj : isD σ (nI j) = true := isD_nI hjj hD6
    have hSi : isSl (nI i) = true := isSl_nI hii
    simp [sp_pass, rD, rF, rS, rU, hDj, hSi, hclj, hcli, hej] at hr
    subst hr
    exact gx_out O (Nat.le_of_ble_eq_true rfl) (Nat.le_of_ble_eq_true rfl) (h w A (CO.rf hR))
  · subst ej ei
    have hclj : (nI j).toNatClampNeg = j := nI_clamp (by omega)
    have hcli : (nI i).toNatClampNeg = i := nI_clamp (by omega)
    have hDj : isD σ (nI j) = true := isD_nI hjj hD6
    have hSi : isSl (nI i) = true := isSl_nI hii
    simp [sp_pass, rD, rF, rS, rU, hDj, hSi, hclj, hcli, hej, hs] at hr
    subst hr
    exact gx_out O (Nat.le_of_ble_eq_true rfl) (Nat.le_of_ble_eq_true rfl) (h w A (CO.rf hR))
  · subst ej ei
    have hclj : (nI j).toNatClampNeg = j := nI_clamp (by omega)
    have hcli : (nI i).toNatClampNeg = i := nI_clamp (by omega)
    have hDj : isD σ (nI j) = true := isD_nI hjj hD6
    have hSi : isSl (nI i) = true := isSl_nI hii
    have hxu := Bool.or_eq_true_iff.mp hxu
    simp [sp_pass, rD, rF, rS, rU, hDj, hSi, hclj, hcli, hej, hs, hxu] at hr
    subst hr
    exact gx_out O (Nat.le_of_ble_eq_true rfl) (Nat.le_of_ble_eq_true rfl) (h w A (CO.rf hR))
  · subst ej ei
    have hclj : (nI j).toNatClampNeg = j := nI_clamp (by omega)
    have hcli : (nI i).toNatClampNeg = i := nI_clamp (by omega)
    have hDj : isD σ (nI j) = true := isD_nI hjj hD6
    have hSi : isSl (nI i) = true := isSl_nI hii
    have hxu := Bool.or_eq_false_iff.mp hxu
    simp [sp_pass, rD, rF, rS, rU, hDj, hSi, hclj, hcli, hej, hs, hxu, hal] at hr
    subst hr
    exact gx_out O (Nat.le_of_ble_eq_true rfl) (Nat.le_of_ble_eq_true rfl) (h w A (CO.rf hR))
  subst ej ei
  have hclj : (nI j).toNatClampNeg = j := nI_clamp (by omega)
  have hcli : (nI i).toNatClampNeg = i := nI_clamp (by omega)
  have hDj : isD σ (nI j) = true := isD_nI hjj hD6
  have hSi : isSl (nI i) = true := isSl_nI hii
  have hxu := Bool.or_eq_false_iff.mp hxu
  have hth := hI.th hc hxu.1
  have hw := hR.wf.2.2.2 c hc
  change cd_Go _ _ _ _ _ _ _ _ _ _
  first | refine g_astore O d_Cd_pass_7 (Nat.le_of_ble_eq_true rfl) ?_ | refine g_astoreq O d_Cd_pass_7 (Nat.le_of_ble_eq_true rfl) ?_
  first | refine g_aload O d_Cd_pass_9 rfl ?_ | refine g_aloadq O d_Cd_pass_9 rfl ?_
  refine g_iload_n O 3 d_Cd_pass_11 rfl rfl ?_
  refine g_calls (N := 7) (mc := 1) (ms := 6) (av := [_, _]) O (Or.inl ⟨_, _, cw_Cd_targetField⟩) pl_Cd ml_Cd_153 st_Cd_targetField in_Cd rfl d_Cd_pass_12 rfl (Nat.le_of_ble_eq_true rfl) (Nat.le_of_ble_eq_true rfl) (Nat.le_of_ble_eq_true rfl) (Nat.le_of_ble_eq_true rfl) ?_
  refine ct_Cd_targetField hst hR hc hth.1 (fun e => ?_) (fun g hg eg => ?_)
  · simp [sp_pass, rD, rF, rS, rU, hDj, hSi, hclj, hcli, hej, hs, hxu, hal, e] at hr
    subst hr
    exact gx_out O (Nat.le_of_ble_eq_true rfl) (Nat.le_of_ble_eq_true rfl) (h w A (CO.rf hR))
  subst eg
  have hclg : (nI g).toNatClampNeg = g := nI_clamp (by omega)
  have hG : isFi (nI g) = true := isFi_nI hg
  change cd_Go _ _ _ _ _ _ _ _ _ _
  first | refine g_astore O d_Cd_pass_15 (Nat.le_of_ble_eq_true rfl) ?_ | refine g_astoreq O d_Cd_pass_15 (Nat.le_of_ble_eq_true rfl) ?_
  first | refine g_aload_n O 0 d_Cd_pass_17 rfl rfl ?_ | refine g_aload_nq O 0 d_Cd_pass_17 rfl rfl ?_
  refine g_iload_n O 1 d_Cd_pass_18 rfl rfl ?_
  refine g_callv (N := 6) (mc := 1) (ms := 6) (av := [_]) O (Or.inl ⟨_, _, cw_Cd_livingDomain⟩) pl_Cd (ci := 0) (q := q_Cd) rfl hR.top.1 ml_Cd_40 im_Cd_livingDomain se_Cd_livingDomain rfl d_Cd_pass_19 rfl (Nat.le_of_ble_eq_true rfl) (Nat.le_of_ble_eq_true rfl) (Nat.le_of_ble_eq_true rfl) (Nat.le_of_ble_eq_true rfl) ?_
  refine ct_Cd_livingDomain hst hR (fun e => ?_) (fun j2 hj2 ej he => ?_) (fun j2 hj2 ej he => ?_)
  · rw [hDj] at e; cases e
  · obtain rfl : j = j2 := (nI_eq (by omega) (by omega)).mp ej
    rw [hej] at he; cases he
  obtain rfl : j = j2 := (nI_eq (by omega) (by omega)).mp ej
  change cd_Go _ _ _ _ _ _ _ _ _ _
  first | refine g_astore O d_Cd_pass_22 (Nat.le_of_ble_eq_true rfl) ?_ | refine g_astoreq O d_Cd_pass_22 (Nat.le_of_ble_eq_true rfl) ?_
  first | refine g_aload O d_Cd_pass_24 rfl ?_ | refine g_aloadq O d_Cd_pass_24 rfl ?_
  refine g_iload O d_Cd_pass_26 rfl ?_
  refine g_callv (N := 0) (mc := 0) (ms := 0) (av := [_]) O (Or.inl ⟨_, _, cw_Do_hasObject⟩) pl_Do (ci := 1) (q := q_Do) rfl (hR.d hjj).2.1 ml_Cd_69 im_Do_hasObject se_Do_hasObject rfl d_Cd_pass_28 rfl (Nat.le_of_ble_eq_true rfl) (Nat.le_of_ble_eq_true rfl) (Nat.le_of_ble_eq_true rfl) (Nat.le_of_ble_eq_true rfl) ?_
  refine ct_Do_hasObject hR hjj ?_
  change cd_Go _ _ _ _ _ _ _ _ _ _
  refine g_if_ne  O 44 d_Cd_pass_31 (by decide) (fun c31 => ?_) (fun c31 => ?_)
  · have hn := cd_b_ne.mp c31
    obtain ⟨i', hi', rfl, hti'⟩ := hasO_of hn
    have hclo : (nI i').toNatClampNeg = i' := nI_clamp (by omega)
    have hWf : WfA ([] : List Nat) := ⟨List.nodup_nil, fun y hy => by cases hy⟩
    obtain ⟨hWL, -, hTL⟩ := come_ok (σ := σ) (d := j) 12 (nI i') [] hWf
    obtain ⟨hiL, hCL⟩ := come_cl (σ := σ) (d := j) 12 (nI i') [] hWf (by simp)
    have hiL := hiL hn
    rw [hclo] at hiL
    have hTL : ∀ y ∈ (come σ j 12 (nI i') []), sT σ j y = true := fun y hy => (hTL y hy).elim (fun z => by cases z) id
    have hCL : ∀ y ∈ (come σ j 12 (nI i') []), ∀ f t, f < 3 → (sF σ j y f).2.1 = some t → t ∈ (come σ j 12 (nI i') []) := fun y hy f t hf ht => hCL y hy (fun z => by cases z) f hf t ht (hR.wf.2.2.1 j y f t hjj (hWL.2 y hy) hf ht) (hI.2.2.2.1 j y f t hjj (hWL.2 y hy) hf (hTL y hy) ht)
    first | refine g_aload_n O 0 d_Cd_pass_44 rfl rfl ?_ | refine g_aload_nq O 0 d_Cd_pass_44 rfl rfl ?_
    refine g_getS O c_Cd 4 (by decide) rfl hR.top.1 lk_Cd_24 d_Cd_pass_45 hR.top.2.2.2.2.2.2.2.1 ?_
    first | refine g_aload O d_Cd_pass_48 rfl ?_ | refine g_aloadq O d_Cd_pass_48 rfl ?_
    refine g_iload O d_Cd_pass_50 rfl ?_
    refine g_callv (N := 14) (mc := 0) (ms := 0) (av := [_, _]) O (Or.inl ⟨_, _, cw_Re_start⟩) pl_Re (ci := 5) (q := q_Re) rfl hR.top.2.2.2.2.2.2.2.2.1 ml_Cd_171 im_Re_start se_Re_start rfl d_Cd_pass_52 rfl (Nat.le_of_ble_eq_true rfl) (Nat.le_of_ble_eq_true rfl) (Nat.le_of_ble_eq_true rfl) (Nat.le_of_ble_eq_true rfl) ?_
    refine ct_Re_start hR hjj (fun w1 hR1 hC1 hF1 => ?_)
    have hle := cnt_le (sT σ (kH σ c)) 12
    have hL12 := nd_len 12 _ hWL.1 hWL.2
    change cd_Go _ _ _ _ _ _ _ _ _ _
    first | refine g_aload O d_Cd_pass_55 rfl ?_ | refine g_aloadq O d_Cd_pass_55 rfl ?_
    refine g_getS O c_Ca 0 (by decide) rfl (hR1.c hc).2.1 lk_Cd_130 d_Cd_pass_57 (hR1.c hc).2.2.1 ?_
    refine g_callv (N := 0) (mc := 0) (ms := 0) (av := []) O (Or.inl ⟨_, _, cw_Do_objectCount⟩) pl_Do (ci := 1) (q := q_Do) rfl (hR1.d hw.1).2.1 ml_Cd_44 im_Do_objectCount se_Do_objectCount rfl d_Cd_pass_60 rfl (Nat.le_of_ble_eq_true rfl) (Nat.le_of_ble_eq_true rfl) (Nat.le_of_ble_eq_true rfl) (Nat.le_of_ble_eq_true rfl) ?_
    refine ct_Do_objectCount hR1 hw.1 ?_
    change cd_Go _ _ _ _ _ _ _ _ _ _
    first | refine g_aload_n O 0 d_Cd_pass_63 rfl rfl ?_ | refine g_aload_nq O 0 d_Cd_pass_63 rfl rfl ?_
    refine g_getS O c_Cd 4 (by decide) rfl hR1.top.1 lk_Cd_24 d_Cd_pass_64 hR1.top.2.2.2.2.2.2.2.1 ?_
    refine g_getV O c_Re 0 (by decide) rfl hR1.top.2.2.2.2.2.2.2.2.1 lk_Cd_175 d_Cd_pass_67 hC1.1 ?_
    refine g_iadd O d_Cd_pass_70 ?_
    rw [nI_add]
    refine g_bipush (v := 12) O d_Cd_pass_71 (by decide) ?_
    refine g_icmp_le  O 86 d_Cd_pass_73 (by decide) (fun c73 => ?_) (fun c73 => ?_)
    · have hg12 : cnt (sT σ (kH σ c)) 12 + (come σ j 12 (nI i') []).length ≤ 12 := (nI_leI (b := 12) (by omega) (by omega)).mp c73
      first | refine g_aload_n O 0 d_Cd_pass_86 rfl rfl ?_ | refine g_aload_nq O 0 d_Cd_pass_86 rfl rfl ?_
      refine g_getS O c_Cd 4 (by decide) rfl hR1.top.1 lk_Cd_24 d_Cd_pass_87 hR1.top.2.2.2.2.2.2.2.1 ?_
      first | refine g_aload O d_Cd_pass_90 rfl ?_ | refine g_aloadq O d_Cd_pass_90 rfl ?_
      refine g_getS O c_Ca 0 (by decide) rfl (hR1.c hc).2.1 lk_Cd_130 d_Cd_pass_92 (hR1.c hc).2.2.1 ?_
      refine g_callv (N := 3) (mc := 0) (ms := 0) (av := [_]) O (Or.inl ⟨_, _, cw_Re_copyInto⟩) pl_Re (ci := 5) (q := q_Re) rfl hR1.top.2.2.2.2.2.2.2.2.1 ml_Cd_180 im_Re_copyInto se_Re_copyInto rfl d_Cd_pass_95 rfl (Nat.le_of_ble_eq_true rfl) (Nat.le_of_ble_eq_true rfl) (Nat.le_of_ble_eq_true rfl) (Nat.le_of_ble_eq_true rfl) ?_
      refine ct_Re_copyInto hR1 hjj hw.1 hC1 hWL hTL hCL hg12 (fun w2 hR2 hC2 hN2 hF2 => ?_)
      have mok := mkA_ok (σ := σ) (h := kH σ c) hWL.1 hg12 _ (Nat.le_refl _)
      have hDC : sDC σ (cpA j (kH σ c) (come σ j 12 (nI i') []) (mkA σ (kH σ c) (come σ j 12 (nI i') []) (come σ j 12 (nI i') []).length).2 (mkA σ (kH σ c) (come σ j 12 (nI i') []) (come σ j 12 (nI i') []).length).1 (come σ j 12 (nI i') []).length) := mok.1.tr (cpA_DC j (kH σ c) (come σ j 12 (nI i') []) (mkA σ (kH σ c) (come σ j 12 (nI i') []) (come σ j 12 (nI i') []).length).2 (mkA σ (kH σ c) (come σ j 12 (nI i') []) (come σ j 12 (nI i') []).length).1 _)
      have hh2 : kH σ c < sD (cpA j (kH σ c) (come σ j 12 (nI i') []) (mkA σ (kH σ c) (come σ j 12 (nI i') []) (come σ j 12 (nI i') []).length).2 (mkA σ (kH σ c) (come σ j 12 (nI i') []) (come σ j 12 (nI i') []).length).1 (come σ j 12 (nI i') []).length) := by rw [hDC.1]; exact hw.1
      have hc2 : c < sC (cpA j (kH σ c) (come σ j 12 (nI i') []) (mkA σ (kH σ c) (come σ j 12 (nI i') []) (come σ j 12 (nI i') []).length).2 (mkA σ (kH σ c) (come σ j 12 (nI i') []) (come σ j 12 (nI i') []).length).1 (come σ j 12 (nI i') []).length) := by rw [hDC.2]; exact hc
      have hF2' : cd_Fr w1 w2 (cd_ow x A σ) := hF2.up fun y _ z => by
        rcases z with z | rfl
        · exact cpW_ow hw.1 z
        · exact ow_at (k := 10) ⟨rfl, rfl, rfl⟩
      have hio : (mkA σ (kH σ c) (come σ j 12 (nI i') []) (come σ j 12 (nI i') []).length).2 i' < 12 := by
        obtain ⟨q, hq, eq⟩ := gD_of hiL
        have := (mok.2.2.2.2 q hq).1
        rw [eq] at this
        exact this
      change cd_Go _ _ _ _ _ _ _ _ _ _
      first | refine g_aload O d_Cd_pass_98 rfl ?_ | refine g_aloadq O d_Cd_pass_98 rfl ?_
      first | refine g_aload_n O 0 d_Cd_pass_100 rfl rfl ?_ | refine g_aload_nq O 0 d_Cd_pass_100 rfl rfl ?_
      refine g_getS O c_Cd 4 (by decide) rfl hR2.top.1 lk_Cd_24 d_Cd_pass_101 hR2.top.2.2.2.2.2.2.2.1 ?_
      refine g_getS O c_Re 1 (by decide) rfl hR2.top.2.2.2.2.2.2.2.2.1 lk_Cd_184 d_Cd_pass_104 hR2.top.2.2.2.2.2.2.2.2.2.1 ?_
      refine g_iload O d_Cd_pass_107 rfl ?_
      refine g_ialdV O 0 rfl rfl hR2.top.2.2.2.2.2.2.2.2.2.2.1 (by rw [hR2.top.2.2.2.2.2.2.2.2.2.2.2.1]; exact ix_in hi' (by omega)) d_Cd_pass_109 (show cd_I w2 (1000 + 0) (A 10 0 0 0) (nI i').toNatClampNeg = nI ((mkA σ (kH σ c) (come σ j 12 (nI i') []) (come σ j 12 (nI i') []).length).2 i') from by rw [hclo]; exact hN2 i' hiL) ?_
      refine g_callv (N := 0) (mc := 0) (ms := 0) (av := [_]) O (Or.inl ⟨_, _, cw_Fi_becomeLink⟩) pl_Fi (ci := 3) (q := q_Fi) rfl (hR2.f hh2 hw.2.1 hg).2.1 ml_Cd_78 im_Fi_becomeLink se_Fi_becomeLink rfl d_Cd_pass_110 rfl (Nat.le_of_ble_eq_true rfl) (Nat.le_of_ble_eq_true rfl) (Nat.le_of_ble_eq_true rfl) (Nat.le_of_ble_eq_true rfl) ?_
      refine ct_Fi_becomeLink (hR2.f hh2 hw.2.1 hg).2.1 ?_
      have hR3 := rep_fL hR2 hh2 hw.2.1 hg hio
      have hF3 : cd_Fr w2 (cd_fL w2 (A 6 (kH σ c) (kT σ c) g) (nI ((mkA σ (kH σ c) (come σ j 12 (nI i') []) (come σ j 12 (nI i') []).length).2 i'))) (cd_ow x A σ) := fr_fL (ow_at (k := 6) ⟨hw.1, hw.2.1, hg⟩)
      have hne9 : cd_I (cd_fL w2 (A 6 (kH σ c) (kT σ c) g) (nI ((mkA σ (kH σ c) (come σ j 12 (nI i') []) (come σ j 12 (nI i') []).length).2 i'))) 160 (A 9 0 0 0) 0 = nI (come σ j 12 (nI i') []).length := by simpa [cd_fL, I_wO, I_wI] using hC2.1
      change cd_Go _ _ _ _ _ _ _ _ _ _
      first | refine g_aload O d_Cd_pass_113 rfl ?_ | refine g_aloadq O d_Cd_pass_113 rfl ?_
      refine g_callv (N := 0) (mc := 0) (ms := 0) (av := []) O (Or.inl ⟨_, _, cw_Ca_spendOneUse⟩) pl_Ca (ci := 4) (q := q_Ca) rfl (hR3.c hc2).2.1 ml_Cd_163 im_Ca_spendOneUse se_Ca_spendOneUse rfl d_Cd_pass_115 rfl (Nat.le_of_ble_eq_true rfl) (Nat.le_of_ble_eq_true rfl) (Nat.le_of_ble_eq_true rfl) (Nat.le_of_ble_eq_true rfl) ?_
      refine ct_Ca_spendOneUse9 hR3 hc2 (fun w4 hR4 hF4 h94 => ?_)
      have hDC4 := hDC.tr (spendL_DC (setF (cpA j (kH σ c) (come σ j 12 (nI i') []) (mkA σ (kH σ c) (come σ j 12 (nI i') []) (come σ j 12 (nI i') []).length).2 (mkA σ (kH σ c) (come σ j 12 (nI i') []) (come σ j 12 (nI i') []).length).1 (come σ j 12 (nI i') []).length) (kH σ c) (kT σ c) g (0, some ((mkA σ (kH σ c) (come σ j 12 (nI i') []) (come σ j 12 (nI i') []).length).2 i'), none)) (anc (setF (cpA j (kH σ c) (come σ j 12 (nI i') []) (mkA σ (kH σ c) (come σ j 12 (nI i') []) (come σ j 12 (nI i') []).length).2 (mkA σ (kH σ c) (come σ j 12 (nI i') []) (come σ j 12 (nI i') []).length).1 (come σ j 12 (nI i') []).length) (kH σ c) (kT σ c) g (0, some ((mkA σ (kH σ c) (come σ j 12 (nI i') []) (come σ j 12 (nI i') []).length).2 i'), none)) c))
      change cd_Go _ _ _ _ _ _ _ _ _ _
      first | refine g_aload_n O 0 d_Cd_pass_118 rfl rfl ?_ | refine g_aload_nq O 0 d_Cd_pass_118 rfl rfl ?_
      refine g_getS O c_Cd 4 (by decide) rfl hR4.top.1 lk_Cd_24 d_Cd_pass_119 hR4.top.2.2.2.2.2.2.2.1 ?_
      refine g_getV O c_Re 0 (by decide) rfl hR4.top.2.2.2.2.2.2.2.2.1 lk_Cd_175 d_Cd_pass_122 (show cd_I w4 160 (A 9 0 0 0) 0 = nI (come σ j 12 (nI i') []).length from h94.trans hne9) ?_
      refine g_iret O d_Cd_pass_125 (Nat.le_of_ble_eq_true rfl) (Nat.le_of_ble_eq_true rfl) ?_
      simp [sp_pass, rU, rD, rS, hn, Nat.not_lt.mpr hg12, hDj, hSi, hclj, hcli, hej, hs, hxu, hal, hclg, hG] at hr
      subst hr
      have hz : psS σ j c g (nI i').toNatClampNeg (come σ j 12 (nI i') []) = spendL (setF (cpA j (kH σ c) (come σ j 12 (nI i') []) (mkA σ (kH σ c) (come σ j 12 (nI i') []) (come σ j 12 (nI i') []).length).2 (mkA σ (kH σ c) (come σ j 12 (nI i') []) (come σ j 12 (nI i') []).length).1 (come σ j 12 (nI i') []).length) (kH σ c) (kT σ c) g (0, some ((mkA σ (kH σ c) (come σ j 12 (nI i') []) (come σ j 12 (nI i') []).length).2 i'), none)) (anc (setF (cpA j (kH σ c) (come σ j 12 (nI i') []) (mkA σ (kH σ c) (come σ j 12 (nI i') []) (come σ j 12 (nI i') []).length).2 (mkA σ (kH σ c) (come σ j 12 (nI i') []) (come σ j 12 (nI i') []).length).1 (come σ j 12 (nI i') []).length) (kH σ c) (kT σ c) g (0, some ((mkA σ (kH σ c) (come σ j 12 (nI i') []) (come σ j 12 (nI i') []).length).2 i'), none)) c) := by rw [hclo]; rfl
      refine h w4 A ?_
      show CO w x A σ w4 A (psS σ j c g (nI i').toNatClampNeg (come σ j 12 (nI i') []))
      rw [hz]
      exact CO.sm hR4 (hF1.tr (hF2'.tr (hF3.tr (fr_cg hDC hF4)))) hDC4
    · have hg12 : 12 < cnt (sT σ (kH σ c)) 12 + (come σ j 12 (nI i') []).length := by
        have := (nI_leI (b := 12) (a := cnt (sT σ (kH σ c)) 12 + (come σ j 12 (nI i') []).length) (by omega) (by omega)).mpr
        exact Nat.lt_of_not_le fun z => c73 (this z)
      refine g_throw (E := 6) O hst ew_6 (by decide +kernel) kl_Cd_48 ia_ArithmeticException in_ArithmeticException ml_Cd_52 ss_Cd_178 d_Cd_pass_76 d_Cd_pass_79 d_Cd_pass_80 d_Cd_pass_82 d_Cd_pass_85 rfl (Nat.le_of_ble_eq_true rfl) (Nat.le_of_ble_eq_true rfl) (Nat.le_of_ble_eq_true rfl) (Nat.le_of_ble_eq_true rfl) (Nat.le_of_ble_eq_true rfl) (Nat.le_of_ble_eq_true rfl) ?_
      simp [sp_pass, rD, rF, rS, rU, hDj, hSi, hclj, hcli, hej, hs, hxu, hal, hclg, hG, hn, hg12] at hr
      subst hr
      exact h w1 A (CO.sm hR1 hF1 ⟨rfl, rfl⟩)
  · have hn := cd_b_eq.mp c31
    refine g_throw (E := 3) O hst ew_3 (by decide +kernel) kl_Cd_73 ia_NoSuchElementException in_NoSuchElementException ml_Cd_77 ss_Cd_169 d_Cd_pass_34 d_Cd_pass_37 d_Cd_pass_38 d_Cd_pass_40 d_Cd_pass_43 rfl (Nat.le_of_ble_eq_true rfl) (Nat.le_of_ble_eq_true rfl) (Nat.le_of_ble_eq_true rfl) (Nat.le_of_ble_eq_true rfl) (Nat.le_of_ble_eq_true rfl) (Nat.le_of_ble_eq_true rfl) ?_
    simp [sp_pass, rD, rF, rS, rU, hDj, hSi, hclj, hcli, hej, hs, hxu, hal, hclg, hG, hn] at hr
    subst hr
    exact h w A (CO.rf hR)
