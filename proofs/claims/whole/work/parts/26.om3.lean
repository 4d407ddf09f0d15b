set_option maxHeartbeats 4000000 in
set_option maxRecDepth 100000 in
theorem om_export {G : cd_Gl} {l : Launch} {w : cd_Wd} {Q : cd_Out → cd_Wd → Prop} {m : Nat} {B : Nat → Nat} {σ : cd_S} {g : Nat → Bool} (hM : RepM w m B σ g) (hL : Rel σ g) (hI : cd_Iv σ) {d o s r' u : Int32} {r : cd_R} (hr : sp_export σ d o s r' u = r) (h : MC w m B r Q) : cd_Ct G l y_Mo_export 2 0 0 [.ref m, .int d, .int o, .int s, .int r', .int u] w Q := by
  refine cd_ofW cw_Mo_export (by simp [Value.category, cat_rf]) (Nat.le_of_ble_eq_true rfl) fun C O => ?_
  change cd_Go G l C _ 0 0 w 0 [some (.ref m), some (.int d), some (.int o), some (.int s), some (.int r'), some (.int u)] []
  first | refine g_aload_n O 0 d_Mo_export_0 rfl rfl ?_ | refine g_aload_nq O 0 d_Mo_export_0 rfl rfl ?_
  refine g_iload_n O 1 d_Mo_export_1 rfl rfl ?_
  refine g_callv (N := 0) (mc := 0) (ms := 0) (av := [_]) O (Or.inl ⟨_, _, cw_Mo_noDomain⟩) pl_Mo (ci := 6) (q := q_Mo) rfl hM.km ml_Mo_78 im_Mo_noDomain se_Mo_noDomain rfl d_Mo_export_2 rfl (Nat.le_of_ble_eq_true rfl) (Nat.le_of_ble_eq_true rfl) (Nat.le_of_ble_eq_true rfl) (Nat.le_of_ble_eq_true rfl) ?_
  refine ct_Mo_noDomain hM ?_
  change cd_Go _ _ _ _ _ _ _ _ _ _
  refine g_if_ne  O 35 d_Mo_export_5 (by decide) (fun c5 => ?_) (fun c5 => ?_)
  · have hn := (cd_nbn _).mp c5
    simp [sp_export, rD, rF, rS, rU, hn] at hr
    subst hr
    first | refine g_aload_n O 0 d_Mo_export_35 rfl rfl ?_ | refine g_aload_nq O 0 d_Mo_export_35 rfl rfl ?_
    refine g_iconst (v := 1) O d_Mo_export_36 (by decide) ?_
    refine g_callv (N := 0) (mc := 0) (ms := 0) (av := [_]) O (Or.inl ⟨_, _, cw_Mo_fail⟩) pl_Mo (ci := 6) (q := q_Mo) rfl hM.km ml_Mo_84 im_Mo_fail se_Mo_fail rfl d_Mo_export_37 rfl (Nat.le_of_ble_eq_true rfl) (Nat.le_of_ble_eq_true rfl) (Nat.le_of_ble_eq_true rfl) (Nat.le_of_ble_eq_true rfl) ?_
    refine ct_Mo_fail hM.km ?_
    change cd_Go _ _ _ _ _ _ _ _ _ _
    refine g_iret O d_Mo_export_40 (Nat.le_of_ble_eq_true rfl) (Nat.le_of_ble_eq_true rfl) ?_
    exact MC.fail (c := 1) (by decide) hM hL cd_Fr.rf h
  · have hDj := (cd_nb _).mp c5
    obtain ⟨j, hjj, rfl⟩ := isD_of hM.D6 hDj
    have h6j : j < 6 := Nat.lt_of_lt_of_le hjj hM.D6
    have hclj : (nI j).toNatClampNeg = j := nI_clamp (by omega)
    first | refine g_aload_n O 0 d_Mo_export_8 rfl rfl ?_ | refine g_aload_nq O 0 d_Mo_export_8 rfl rfl ?_
    refine g_iload_n O 3 d_Mo_export_9 rfl rfl ?_
    refine g_bipush (v := 8) O d_Mo_export_10 (by decide) ?_
    refine g_callv (N := 0) (mc := 0) (ms := 0) (av := [_, _]) O (Or.inl ⟨_, _, cw_Mo_out⟩) pl_Mo (ci := 6) (q := q_Mo) rfl hM.km ml_Mo_66 im_Mo_out se_Mo_out rfl d_Mo_export_12 rfl (Nat.le_of_ble_eq_true rfl) (Nat.le_of_ble_eq_true rfl) (Nat.le_of_ble_eq_true rfl) (Nat.le_of_ble_eq_true rfl) ?_
    refine ct_Mo_out ?_
    change cd_Go _ _ _ _ _ _ _ _ _ _
    refine g_if_ne  O 35 d_Mo_export_15 (by decide) (fun c15 => ?_) (fun c15 => ?_)
    · have hn : isSl _ = false := (cd_nbn _).mp c15
      simp [sp_export, rD, rF, rS, rU, hn] at hr
      subst hr
      first | refine g_aload_n O 0 d_Mo_export_35 rfl rfl ?_ | refine g_aload_nq O 0 d_Mo_export_35 rfl rfl ?_
      refine g_iconst (v := 1) O d_Mo_export_36 (by decide) ?_
      refine g_callv (N := 0) (mc := 0) (ms := 0) (av := [_]) O (Or.inl ⟨_, _, cw_Mo_fail⟩) pl_Mo (ci := 6) (q := q_Mo) rfl hM.km ml_Mo_84 im_Mo_fail se_Mo_fail rfl d_Mo_export_37 rfl (Nat.le_of_ble_eq_true rfl) (Nat.le_of_ble_eq_true rfl) (Nat.le_of_ble_eq_true rfl) (Nat.le_of_ble_eq_true rfl) ?_
      refine ct_Mo_fail hM.km ?_
      change cd_Go _ _ _ _ _ _ _ _ _ _
      refine g_iret O d_Mo_export_40 (Nat.le_of_ble_eq_true rfl) (Nat.le_of_ble_eq_true rfl) ?_
      exact MC.fail (c := 1) (by decide) hM hL cd_Fr.rf h
    · have hSi : isSl _ = true := (cd_nb _).mp c15
      obtain ⟨i, hii, rfl⟩ := isSl_of hSi
      have hcli : (nI i).toNatClampNeg = i := nI_clamp (by omega)
      first | refine g_aload_n O 0 d_Mo_export_18 rfl rfl ?_ | refine g_aload_nq O 0 d_Mo_export_18 rfl rfl ?_
      refine g_iload O d_Mo_export_19 rfl ?_
      refine g_bipush (v := 32) O d_Mo_export_21 (by decide) ?_
      refine g_callv (N := 0) (mc := 0) (ms := 0) (av := [_, _]) O (Or.inl ⟨_, _, cw_Mo_out⟩) pl_Mo (ci := 6) (q := q_Mo) rfl hM.km ml_Mo_66 im_Mo_out se_Mo_out rfl d_Mo_export_23 rfl (Nat.le_of_ble_eq_true rfl) (Nat.le_of_ble_eq_true rfl) (Nat.le_of_ble_eq_true rfl) (Nat.le_of_ble_eq_true rfl) ?_
      refine ct_Mo_out ?_
      change cd_Go _ _ _ _ _ _ _ _ _ _
      refine g_if_ne  O 35 d_Mo_export_26 (by decide) (fun c26 => ?_) (fun c26 => ?_)
      · have hn : isGr r' u = false := by have z := (cd_nbn _).mp c26; rw [inL_32] at z; rw [isGr, z]; rfl
        simp [sp_export, rD, rF, rS, rU, hn] at hr
        subst hr
        first | refine g_aload_n O 0 d_Mo_export_35 rfl rfl ?_ | refine g_aload_nq O 0 d_Mo_export_35 rfl rfl ?_
        refine g_iconst (v := 1) O d_Mo_export_36 (by decide) ?_
        refine g_callv (N := 0) (mc := 0) (ms := 0) (av := [_]) O (Or.inl ⟨_, _, cw_Mo_fail⟩) pl_Mo (ci := 6) (q := q_Mo) rfl hM.km ml_Mo_84 im_Mo_fail se_Mo_fail rfl d_Mo_export_37 rfl (Nat.le_of_ble_eq_true rfl) (Nat.le_of_ble_eq_true rfl) (Nat.le_of_ble_eq_true rfl) (Nat.le_of_ble_eq_true rfl) ?_
        refine ct_Mo_fail hM.km ?_
        change cd_Go _ _ _ _ _ _ _ _ _ _
        refine g_iret O d_Mo_export_40 (Nat.le_of_ble_eq_true rfl) (Nat.le_of_ble_eq_true rfl) ?_
        exact MC.fail (c := 1) (by decide) hM hL cd_Fr.rf h
      · refine g_iload O d_Mo_export_29 rfl ?_
        refine g_iconst (v := -1) O d_Mo_export_31 (by decide) ?_
        refine g_icmp_ge  O 41 d_Mo_export_32 (by decide) (fun c32 => ?_) (fun c32 => ?_)
        · have hGr : isGr r' u = true := by have z := (cd_nb _).mp c26; rw [inL_32] at z; rw [isGr, z, decide_eq_true c32]; rfl
          first | refine g_aload_n O 0 d_Mo_export_41 rfl rfl ?_ | refine g_aload_nq O 0 d_Mo_export_41 rfl rfl ?_
          refine g_getS O c_Mo 3 (by decide) rfl hM.km lk_Mo_19 d_Mo_export_42 (hM.a 3 (by omega) (by omega)).1 ?_
          refine g_iload_n O 1 d_Mo_export_45 rfl rfl ?_
          refine g_zaldV O 1 rfl rfl (hM.a 3 (by omega) (by omega)).2.1 (by (try simp only [ln_wI]); rw [(hM.a 3 (by omega) (by omega)).2.2]; exact ix_in (n := 6) (show j < 6 from by omega) (by omega)) d_Mo_export_46 (Eq.trans (congrArg (cd_I _ (1000 + 1) (B 3)) (cl_nI (j := j) (by omega))) (hM.E h6j)) ?_
          refine g_if_eq  O 56 d_Mo_export_47 (by decide) (fun c47 => ?_) (fun c47 => ?_)
          · have hej := cd_b_eq.mp c47
            first | refine g_aload_n O 0 d_Mo_export_56 rfl rfl ?_ | refine g_aload_nq O 0 d_Mo_export_56 rfl rfl ?_
            refine g_iload_n O 1 d_Mo_export_57 rfl rfl ?_
            refine g_iload_n O 2 d_Mo_export_58 rfl rfl ?_
            refine g_callv (N := 1) (mc := 0) (ms := 0) (av := [_, _]) O (Or.inl ⟨_, _, cw_Mo_none⟩) pl_Mo (ci := 6) (q := q_Mo) rfl hM.km ml_Mo_100 im_Mo_none se_Mo_none rfl d_Mo_export_59 rfl (Nat.le_of_ble_eq_true rfl) (Nat.le_of_ble_eq_true rfl) (Nat.le_of_ble_eq_true rfl) (Nat.le_of_ble_eq_true rfl) ?_
            refine ct_Mo_none hM h6j ?_
            change cd_Go _ _ _ _ _ _ _ _ _ _
            refine g_if_eq  O 71 d_Mo_export_62 (by decide) (fun c62 => ?_) (fun c62 => ?_)
            · have hO := (cd_nb _).mp c62
              obtain ⟨p, hpp, rfl, htp⟩ := hasO_of hO
              have hclp : (nI p).toNatClampNeg = p := nI_clamp (by omega)
              first | refine g_aload_n O 0 d_Mo_export_71 rfl rfl ?_ | refine g_aload_nq O 0 d_Mo_export_71 rfl rfl ?_
              refine g_getV O c_Mo 1 (by decide) rfl hM.km lk_Mo_13 d_Mo_export_72 hM.C ?_
              refine g_bipush (v := 40) O d_Mo_export_75 (by decide) ?_
              refine g_icmp_ne  O 86 d_Mo_export_77 (by decide) (fun c77 => ?_) (fun c77 => ?_)
              · have hn40 : sC σ < 40 := by
                  have h6 := hM.C40
                  have : ¬ sC σ = 40 := fun z => c77 (by rw [z]; rfl)
                  omega
                simp [sp_export, rD, rF, rS, rU, hDj, hSi, hclj, hcli, hGr, hej, hO, hclp, hn40] at hr
                subst hr
                first | refine g_aload_n O 0 d_Mo_export_86 rfl rfl ?_ | refine g_aload_nq O 0 d_Mo_export_86 rfl rfl ?_
                refine g_getS O c_Mo 7 (by decide) rfl hM.km lk_Mo_33 d_Mo_export_87 (hM.a 7 (by omega) (by omega)).1 ?_
                refine g_iload_n O 1 d_Mo_export_90 rfl rfl ?_
                refine g_bipush (v := 8) O d_Mo_export_91 (by decide) ?_
                refine g_imul O d_Mo_export_93 ?_
                refine g_iload_n O 3 d_Mo_export_94 rfl rfl ?_
                refine g_iadd O d_Mo_export_95 ?_
                rw [m8, nI_add]
                first | refine g_aload_n O 0 d_Mo_export_96 rfl rfl ?_ | refine g_aload_nq O 0 d_Mo_export_96 rfl rfl ?_
                refine g_iload_n O 1 d_Mo_export_97 rfl rfl ?_
                refine g_bipush (v := 12) O d_Mo_export_98 (by decide) ?_
                refine g_imul O d_Mo_export_100 ?_
                refine g_iload_n O 2 d_Mo_export_101 rfl rfl ?_
                refine g_iadd O d_Mo_export_102 ?_
                rw [m12, nI_add]
                refine g_iload O d_Mo_export_103 rfl ?_
                refine g_iload O d_Mo_export_105 rfl ?_
                refine g_iconst (v := -1) O d_Mo_export_107 (by decide) ?_
                refine g_callv (N := 0) (mc := 0) (ms := 0) (av := [_, _, _, _]) O (Or.inl ⟨_, _, cw_Mo_capability⟩) pl_Mo (ci := 6) (q := q_Mo) rfl hM.km ml_Mo_103 im_Mo_capability se_Mo_capability rfl d_Mo_export_108 rfl (Nat.le_of_ble_eq_true rfl) (Nat.le_of_ble_eq_true rfl) (Nat.le_of_ble_eq_true rfl) (Nat.le_of_ble_eq_true rfl) ?_
                refine ct_Mo_capability (pa := none) hM hjj hpp (fun _ z => by cases z) hn40 (fun w1 hM1 hF1 => ?_)
                change cd_Go _ _ _ _ _ _ _ _ _ _
                refine g_iast O 0 rfl rfl (hM1.a 7 (by omega) (by omega)).2.1 (by (try simp only [ln_wI]); rw [(hM1.a 7 (by omega) (by omega)).2.2]; exact ix_in (n := 48) (show j * 8 + i < 48 from by omega) (by omega)) d_Mo_export_111 ?_
                rw [cl_nI (show j * 8 + i < 2 ^ 31 by omega)]
                have hM2 := rm_S hM1 j hii (some (sC σ)) (fun _ z => by cases z; exact Nat.lt_succ_self _)
                have hL2 : Rel (setS (addK σ (j, p, none, r', u, false, false)) j i (some (sC σ))) g := (Rel_addK hL (fun c hc => (hM.hw hc).2.2.2) hej (fun _ z => by cases z)).cg rfl (fun _ => rfl) (fun _ => rfl) (fun _ => rfl) (fun _ => rfl)
                first | refine g_aload_n O 0 d_Mo_export_112 rfl rfl ?_ | refine g_aload_nq O 0 d_Mo_export_112 rfl rfl ?_
                first | refine g_aload_n O 0 d_Mo_export_113 rfl rfl ?_ | refine g_aload_nq O 0 d_Mo_export_113 rfl rfl ?_
                refine g_getV O c_Mo 1 (by decide) rfl hM2.km lk_Mo_13 d_Mo_export_114 (show cd_I _ 193 m 0 = nI (sC σ + 1) from hM2.C) ?_
                refine g_callv (N := 0) (mc := 0) (ms := 0) (av := [_]) O (Or.inl ⟨_, _, cw_Mo_fine⟩) pl_Mo (ci := 6) (q := q_Mo) rfl hM2.km ml_Mo_87 im_Mo_fine se_Mo_fine rfl d_Mo_export_117 rfl (Nat.le_of_ble_eq_true rfl) (Nat.le_of_ble_eq_true rfl) (Nat.le_of_ble_eq_true rfl) (Nat.le_of_ble_eq_true rfl) ?_
                refine ct_Mo_fine hM2.km ?_
                change cd_Go _ _ _ _ _ _ _ _ _ _
                refine g_iret O d_Mo_export_120 (Nat.le_of_ble_eq_true rfl) (Nat.le_of_ble_eq_true rfl) ?_
                exact MC.fine hM2 hL2 (hF1.tr (cd_Fr.wI (mow_k (k := 7) (by omega) (by omega)))) h
              · have hn : ¬ sC σ < 40 := fun z => by have := (nI_eq (b := 40) (show sC σ < 2 ^ 31 by omega) (by omega)).mp c77; omega
                simp [sp_export, rD, rF, rS, rU, hDj, hSi, hclj, hcli, hGr, hej, hO, hn] at hr
                subst hr
                first | refine g_aload_n O 0 d_Mo_export_80 rfl rfl ?_ | refine g_aload_nq O 0 d_Mo_export_80 rfl rfl ?_
                refine g_iconst (v := 4) O d_Mo_export_81 (by decide) ?_
                refine g_callv (N := 0) (mc := 0) (ms := 0) (av := [_]) O (Or.inl ⟨_, _, cw_Mo_fail⟩) pl_Mo (ci := 6) (q := q_Mo) rfl hM.km ml_Mo_84 im_Mo_fail se_Mo_fail rfl d_Mo_export_82 rfl (Nat.le_of_ble_eq_true rfl) (Nat.le_of_ble_eq_true rfl) (Nat.le_of_ble_eq_true rfl) (Nat.le_of_ble_eq_true rfl) ?_
                refine ct_Mo_fail hM.km ?_
                change cd_Go _ _ _ _ _ _ _ _ _ _
                refine g_iret O d_Mo_export_85 (Nat.le_of_ble_eq_true rfl) (Nat.le_of_ble_eq_true rfl) ?_
                exact MC.fail (c := 4) (by decide) hM hL cd_Fr.rf h
            · have hO := (cd_nbn _).mp c62
              simp [sp_export, rD, rF, rS, rU, hDj, hSi, hclj, hcli, hGr, hej, hO] at hr
              subst hr
              first | refine g_aload_n O 0 d_Mo_export_65 rfl rfl ?_ | refine g_aload_nq O 0 d_Mo_export_65 rfl rfl ?_
              refine g_iconst (v := 3) O d_Mo_export_66 (by decide) ?_
              refine g_callv (N := 0) (mc := 0) (ms := 0) (av := [_]) O (Or.inl ⟨_, _, cw_Mo_fail⟩) pl_Mo (ci := 6) (q := q_Mo) rfl hM.km ml_Mo_84 im_Mo_fail se_Mo_fail rfl d_Mo_export_67 rfl (Nat.le_of_ble_eq_true rfl) (Nat.le_of_ble_eq_true rfl) (Nat.le_of_ble_eq_true rfl) (Nat.le_of_ble_eq_true rfl) ?_
              refine ct_Mo_fail hM.km ?_
              change cd_Go _ _ _ _ _ _ _ _ _ _
              refine g_iret O d_Mo_export_70 (Nat.le_of_ble_eq_true rfl) (Nat.le_of_ble_eq_true rfl) ?_
              exact MC.fail (c := 3) (by decide) hM hL cd_Fr.rf h
          · have hej := cd_b_ne.mp c47
            simp [sp_export, rD, rF, rS, rU, hDj, hSi, hclj, hcli, hGr, hej] at hr
            subst hr
            first | refine g_aload_n O 0 d_Mo_export_50 rfl rfl ?_ | refine g_aload_nq O 0 d_Mo_export_50 rfl rfl ?_
            refine g_iconst (v := 2) O d_Mo_export_51 (by decide) ?_
            refine g_callv (N := 0) (mc := 0) (ms := 0) (av := [_]) O (Or.inl ⟨_, _, cw_Mo_fail⟩) pl_Mo (ci := 6) (q := q_Mo) rfl hM.km ml_Mo_84 im_Mo_fail se_Mo_fail rfl d_Mo_export_52 rfl (Nat.le_of_ble_eq_true rfl) (Nat.le_of_ble_eq_true rfl) (Nat.le_of_ble_eq_true rfl) (Nat.le_of_ble_eq_true rfl) ?_
            refine ct_Mo_fail hM.km ?_
            change cd_Go _ _ _ _ _ _ _ _ _ _
            refine g_iret O d_Mo_export_55 (Nat.le_of_ble_eq_true rfl) (Nat.le_of_ble_eq_true rfl) ?_
            exact MC.fail (c := 2) (by decide) hM hL cd_Fr.rf h
        · have hGr : isGr r' u = false := by rw [isGr, decide_eq_false c32, Bool.and_false]
          simp [sp_export, rD, rF, rS, rU, hGr] at hr
          subst hr
          first | refine g_aload_n O 0 d_Mo_export_35 rfl rfl ?_ | refine g_aload_nq O 0 d_Mo_export_35 rfl rfl ?_
          refine g_iconst (v := 1) O d_Mo_export_36 (by decide) ?_
          refine g_callv (N := 0) (mc := 0) (ms := 0) (av := [_]) O (Or.inl ⟨_, _, cw_Mo_fail⟩) pl_Mo (ci := 6) (q := q_Mo) rfl hM.km ml_Mo_84 im_Mo_fail se_Mo_fail rfl d_Mo_export_37 rfl (Nat.le_of_ble_eq_true rfl) (Nat.le_of_ble_eq_true rfl) (Nat.le_of_ble_eq_true rfl) (Nat.le_of_ble_eq_true rfl) ?_
          refine ct_Mo_fail hM.km ?_
          change cd_Go _ _ _ _ _ _ _ _ _ _
          refine g_iret O d_Mo_export_40 (Nat.le_of_ble_eq_true rfl) (Nat.le_of_ble_eq_true rfl) ?_
          exact MC.fail (c := 1) (by decide) hM hL cd_Fr.rf h
set_option maxHeartbeats 4000000 in
set_option maxRecDepth 100000 in
theorem om_narrow {G : cd_Gl} {l : Launch} {w : cd_Wd} {Q : cd_Out → cd_Wd → Prop} {m : Nat} {B : Nat → Nat} {σ : cd_S} {g : Nat → Bool} (hM : RepM w m B σ g) (hL : Rel σ g) (hI : cd_Iv σ) {d s r' u : Int32} {r : cd_R} (hr : sp_narrow σ d s r' u = r) (h : MC w m B r Q) : cd_Ct G l y_Mo_narrow 3 0 0 [.ref m, .int d, .int s, .int r', .int u] w Q := by
  refine cd_ofW cw_Mo_narrow (by simp [Value.category, cat_rf]) (Nat.le_of_ble_eq_true rfl) fun C O => ?_
  change cd_Go G l C _ 0 0 w 0 [some (.ref m), some (.int d), some (.int s), some (.int r'), some (.int u), none] []
  first | refine g_aload_n O 0 d_Mo_narrow_0 rfl rfl ?_ | refine g_aload_nq O 0 d_Mo_narrow_0 rfl rfl ?_
  refine g_iload_n O 1 d_Mo_narrow_1 rfl rfl ?_
  refine g_callv (N := 0) (mc := 0) (ms := 0) (av := [_]) O (Or.inl ⟨_, _, cw_Mo_noDomain⟩) pl_Mo (ci := 6) (q := q_Mo) rfl hM.km ml_Mo_78 im_Mo_noDomain se_Mo_noDomain rfl d_Mo_narrow_2 rfl (Nat.le_of_ble_eq_true rfl) (Nat.le_of_ble_eq_true rfl) (Nat.le_of_ble_eq_true rfl) (Nat.le_of_ble_eq_true rfl) ?_
  refine ct_Mo_noDomain hM ?_
  change cd_Go _ _ _ _ _ _ _ _ _ _
  refine g_if_ne  O 34 d_Mo_narrow_5 (by decide) (fun c5 => ?_) (fun c5 => ?_)
  · have hn := (cd_nbn _).mp c5
    simp [sp_narrow, rD, rF, rS, rU, hn] at hr
    subst hr
    first | refine g_aload_n O 0 d_Mo_narrow_34 rfl rfl ?_ | refine g_aload_nq O 0 d_Mo_narrow_34 rfl rfl ?_
    refine g_iconst (v := 1) O d_Mo_narrow_35 (by decide) ?_
    refine g_callv (N := 0) (mc := 0) (ms := 0) (av := [_]) O (Or.inl ⟨_, _, cw_Mo_fail⟩) pl_Mo (ci := 6) (q := q_Mo) rfl hM.km ml_Mo_84 im_Mo_fail se_Mo_fail rfl d_Mo_narrow_36 rfl (Nat.le_of_ble_eq_true rfl) (Nat.le_of_ble_eq_true rfl) (Nat.le_of_ble_eq_true rfl) (Nat.le_of_ble_eq_true rfl) ?_
    refine ct_Mo_fail hM.km ?_
    change cd_Go _ _ _ _ _ _ _ _ _ _
    refine g_iret O d_Mo_narrow_39 (Nat.le_of_ble_eq_true rfl) (Nat.le_of_ble_eq_true rfl) ?_
    exact MC.fail (c := 1) (by decide) hM hL cd_Fr.rf h
  · have hDj := (cd_nb _).mp c5
    obtain ⟨j, hjj, rfl⟩ := isD_of hM.D6 hDj
    have h6j : j < 6 := Nat.lt_of_lt_of_le hjj hM.D6
    have hclj : (nI j).toNatClampNeg = j := nI_clamp (by omega)
    first | refine g_aload_n O 0 d_Mo_narrow_8 rfl rfl ?_ | refine g_aload_nq O 0 d_Mo_narrow_8 rfl rfl ?_
    refine g_iload_n O 2 d_Mo_narrow_9 rfl rfl ?_
    refine g_bipush (v := 8) O d_Mo_narrow_10 (by decide) ?_
    refine g_callv (N := 0) (mc := 0) (ms := 0) (av := [_, _]) O (Or.inl ⟨_, _, cw_Mo_out⟩) pl_Mo (ci := 6) (q := q_Mo) rfl hM.km ml_Mo_66 im_Mo_out se_Mo_out rfl d_Mo_narrow_12 rfl (Nat.le_of_ble_eq_true rfl) (Nat.le_of_ble_eq_true rfl) (Nat.le_of_ble_eq_true rfl) (Nat.le_of_ble_eq_true rfl) ?_
    refine ct_Mo_out ?_
    change cd_Go _ _ _ _ _ _ _ _ _ _
    refine g_if_ne  O 34 d_Mo_narrow_15 (by decide) (fun c15 => ?_) (fun c15 => ?_)
    · have hn : isSl _ = false := (cd_nbn _).mp c15
      simp [sp_narrow, rD, rF, rS, rU, hn] at hr
      subst hr
      first | refine g_aload_n O 0 d_Mo_narrow_34 rfl rfl ?_ | refine g_aload_nq O 0 d_Mo_narrow_34 rfl rfl ?_
      refine g_iconst (v := 1) O d_Mo_narrow_35 (by decide) ?_
      refine g_callv (N := 0) (mc := 0) (ms := 0) (av := [_]) O (Or.inl ⟨_, _, cw_Mo_fail⟩) pl_Mo (ci := 6) (q := q_Mo) rfl hM.km ml_Mo_84 im_Mo_fail se_Mo_fail rfl d_Mo_narrow_36 rfl (Nat.le_of_ble_eq_true rfl) (Nat.le_of_ble_eq_true rfl) (Nat.le_of_ble_eq_true rfl) (Nat.le_of_ble_eq_true rfl) ?_
      refine ct_Mo_fail hM.km ?_
      change cd_Go _ _ _ _ _ _ _ _ _ _
      refine g_iret O d_Mo_narrow_39 (Nat.le_of_ble_eq_true rfl) (Nat.le_of_ble_eq_true rfl) ?_
      exact MC.fail (c := 1) (by decide) hM hL cd_Fr.rf h
    · have hSi : isSl _ = true := (cd_nb _).mp c15
      obtain ⟨i, hii, rfl⟩ := isSl_of hSi
      have hcli : (nI i).toNatClampNeg = i := nI_clamp (by omega)
      first | refine g_aload_n O 0 d_Mo_narrow_18 rfl rfl ?_ | refine g_aload_nq O 0 d_Mo_narrow_18 rfl rfl ?_
      refine g_iload_n O 3 d_Mo_narrow_19 rfl rfl ?_
      refine g_bipush (v := 32) O d_Mo_narrow_20 (by decide) ?_
      refine g_callv (N := 0) (mc := 0) (ms := 0) (av := [_, _]) O (Or.inl ⟨_, _, cw_Mo_out⟩) pl_Mo (ci := 6) (q := q_Mo) rfl hM.km ml_Mo_66 im_Mo_out se_Mo_out rfl d_Mo_narrow_22 rfl (Nat.le_of_ble_eq_true rfl) (Nat.le_of_ble_eq_true rfl) (Nat.le_of_ble_eq_true rfl) (Nat.le_of_ble_eq_true rfl) ?_
      refine ct_Mo_out ?_
      change cd_Go _ _ _ _ _ _ _ _ _ _
      refine g_if_ne  O 34 d_Mo_narrow_25 (by decide) (fun c25 => ?_) (fun c25 => ?_)
      · have hn : isGr r' u = false := by have z := (cd_nbn _).mp c25; rw [inL_32] at z; rw [isGr, z]; rfl
        simp [sp_narrow, rD, rF, rS, rU, hn] at hr
        subst hr
        first | refine g_aload_n O 0 d_Mo_narrow_34 rfl rfl ?_ | refine g_aload_nq O 0 d_Mo_narrow_34 rfl rfl ?_
        refine g_iconst (v := 1) O d_Mo_narrow_35 (by decide) ?_
        refine g_callv (N := 0) (mc := 0) (ms := 0) (av := [_]) O (Or.inl ⟨_, _, cw_Mo_fail⟩) pl_Mo (ci := 6) (q := q_Mo) rfl hM.km ml_Mo_84 im_Mo_fail se_Mo_fail rfl d_Mo_narrow_36 rfl (Nat.le_of_ble_eq_true rfl) (Nat.le_of_ble_eq_true rfl) (Nat.le_of_ble_eq_true rfl) (Nat.le_of_ble_eq_true rfl) ?_
        refine ct_Mo_fail hM.km ?_
        change cd_Go _ _ _ _ _ _ _ _ _ _
        refine g_iret O d_Mo_narrow_39 (Nat.le_of_ble_eq_true rfl) (Nat.le_of_ble_eq_true rfl) ?_
        exact MC.fail (c := 1) (by decide) hM hL cd_Fr.rf h
      · refine g_iload O d_Mo_narrow_28 rfl ?_
        refine g_iconst (v := -1) O d_Mo_narrow_30 (by decide) ?_
        refine g_icmp_ge  O 40 d_Mo_narrow_31 (by decide) (fun c31 => ?_) (fun c31 => ?_)
        · have hGr : isGr r' u = true := by have z := (cd_nb _).mp c25; rw [inL_32] at z; rw [isGr, z, decide_eq_true c31]; rfl
          first | refine g_aload_n O 0 d_Mo_narrow_40 rfl rfl ?_ | refine g_aload_nq O 0 d_Mo_narrow_40 rfl rfl ?_
          refine g_getS O c_Mo 3 (by decide) rfl hM.km lk_Mo_19 d_Mo_narrow_41 (hM.a 3 (by omega) (by omega)).1 ?_
          refine g_iload_n O 1 d_Mo_narrow_44 rfl rfl ?_
          refine g_zaldV O 1 rfl rfl (hM.a 3 (by omega) (by omega)).2.1 (by (try simp only [ln_wI]); rw [(hM.a 3 (by omega) (by omega)).2.2]; exact ix_in (n := 6) (show j < 6 from by omega) (by omega)) d_Mo_narrow_45 (Eq.trans (congrArg (cd_I _ (1000 + 1) (B 3)) (cl_nI (j := j) (by omega))) (hM.E h6j)) ?_
          refine g_if_eq  O 55 d_Mo_narrow_46 (by decide) (fun c46 => ?_) (fun c46 => ?_)
          · have hej := cd_b_eq.mp c46
            first | refine g_aload_n O 0 d_Mo_narrow_55 rfl rfl ?_ | refine g_aload_nq O 0 d_Mo_narrow_55 rfl rfl ?_
            refine g_getS O c_Mo 7 (by decide) rfl hM.km lk_Mo_33 d_Mo_narrow_56 (hM.a 7 (by omega) (by omega)).1 ?_
            refine g_iload_n O 1 d_Mo_narrow_59 rfl rfl ?_
            refine g_bipush (v := 8) O d_Mo_narrow_60 (by decide) ?_
            refine g_imul O d_Mo_narrow_62 ?_
            refine g_iload_n O 2 d_Mo_narrow_63 rfl rfl ?_
            refine g_iadd O d_Mo_narrow_64 ?_
            rw [m8, nI_add]
            refine g_ialdV O 0 rfl rfl (hM.a 7 (by omega) (by omega)).2.1 (by (try simp only [ln_wI]); rw [(hM.a 7 (by omega) (by omega)).2.2]; exact ix_in (n := 48) (show j * 8 + i < 48 from by omega) (by omega)) d_Mo_narrow_65 (Eq.trans (congrArg (cd_I _ (1000 + 0) (B 7)) (cl_nI (j := j * 8 + i) (by omega))) (hM.S h6j hii)) ?_
            refine g_istore O d_Mo_narrow_66 (Nat.le_of_ble_eq_true rfl) ?_
            refine g_iload O d_Mo_narrow_68 rfl ?_
            refine g_if_ge  O 79 d_Mo_narrow_70 (by decide) (fun c70 => ?_) (fun c70 => ?_)
            · obtain ⟨c, hs⟩ := sl_ge (fun c hc => Nat.lt_of_lt_of_le (hM.wf.1 j i c hjj hii hc) hM.C40) c70
              have hc := hM.wf.1 j i c hjj hii hs
              have hC := hM.C40
              have hw := hM.hw hc
              rw [hs]
              change cd_Go G l C _ _ _ _ _ [some (.ref m), some (.int (nI j)), some (.int (nI i)), some (.int r'), some (.int u), some (.int (nI c))] []
              first | refine g_aload_n O 0 d_Mo_narrow_79 rfl rfl ?_ | refine g_aload_nq O 0 d_Mo_narrow_79 rfl rfl ?_
              refine g_iload O d_Mo_narrow_80 rfl ?_
              refine g_callv (N := 1) (mc := 0) (ms := 0) (av := [_]) O (Or.inl ⟨_, _, cw_Mo_dead⟩) pl_Mo (ci := 6) (q := q_Mo) rfl hM.km ml_Mo_74 im_Mo_dead se_Mo_dead rfl d_Mo_narrow_82 rfl (Nat.le_of_ble_eq_true rfl) (Nat.le_of_ble_eq_true rfl) (Nat.le_of_ble_eq_true rfl) (Nat.le_of_ble_eq_true rfl) ?_
              refine ct_Mo_dead hM hc ?_
              rw [← hL.1 c hc]
              change cd_Go _ _ _ _ _ _ _ _ _ _
              refine g_if_eq  O 94 d_Mo_narrow_85 (by decide) (fun c85 => ?_) (fun c85 => ?_)
              · have hx := cd_b_eq.mp c85
                obtain ⟨l1, l2, l3⟩ := hI.lv hc hx
                refine g_iload_n O 3 d_Mo_narrow_94 rfl rfl ?_
                first | refine g_aload_n O 0 d_Mo_narrow_95 rfl rfl ?_ | refine g_aload_nq O 0 d_Mo_narrow_95 rfl rfl ?_
                refine g_getS O c_Mo 9 (by decide) rfl hM.km lk_Mo_39 d_Mo_narrow_96 (hM.a 9 (by omega) (by omega)).1 ?_
                refine g_iload O d_Mo_narrow_99 rfl ?_
                refine g_ialdV O 0 rfl rfl (hM.a 9 (by omega) (by omega)).2.1 (by (try simp only [ln_wI]); rw [(hM.a 9 (by omega) (by omega)).2.2]; exact ix_in (n := 40) (show c < 40 from by omega) (by omega)) d_Mo_narrow_101 (Eq.trans (congrArg (cd_I _ (1000 + 0) (B 9)) (cl_nI (j := c) (by omega))) ((hM.K hc).2.1)) ?_
                refine g_iconst (v := -1) O d_Mo_narrow_102 (by decide) ?_
                refine g_ixor O d_Mo_narrow_103 ?_
                refine g_iand O d_Mo_narrow_104 ?_
                refine g_if_eq  O 114 d_Mo_narrow_105 (by decide) (fun c105 => ?_) (fun c105 => ?_)
                · have hal : alw σ c r' = true := decide_eq_true c105
                  first | refine g_aload_n O 0 d_Mo_narrow_114 rfl rfl ?_ | refine g_aload_nq O 0 d_Mo_narrow_114 rfl rfl ?_
                  refine g_getV O c_Mo 1 (by decide) rfl hM.km lk_Mo_13 d_Mo_narrow_115 hM.C ?_
                  refine g_bipush (v := 40) O d_Mo_narrow_118 (by decide) ?_
                  refine g_icmp_ne  O 129 d_Mo_narrow_120 (by decide) (fun c120 => ?_) (fun c120 => ?_)
                  · have hn40 : sC σ < 40 := by
                      have h6 := hM.C40
                      have : ¬ sC σ = 40 := fun z => c120 (by rw [z]; rfl)
                      omega
                    simp [sp_narrow, rD, rF, rS, rU, hDj, hSi, hclj, hcli, hGr, hej, hs, hx, hal, hn40] at hr
                    subst hr
                    first | refine g_aload_n O 0 d_Mo_narrow_129 rfl rfl ?_ | refine g_aload_nq O 0 d_Mo_narrow_129 rfl rfl ?_
                    refine g_getS O c_Mo 7 (by decide) rfl hM.km lk_Mo_33 d_Mo_narrow_130 (hM.a 7 (by omega) (by omega)).1 ?_
                    refine g_iload_n O 1 d_Mo_narrow_133 rfl rfl ?_
                    refine g_bipush (v := 8) O d_Mo_narrow_134 (by decide) ?_
                    refine g_imul O d_Mo_narrow_136 ?_
                    refine g_iload_n O 2 d_Mo_narrow_137 rfl rfl ?_
                    refine g_iadd O d_Mo_narrow_138 ?_
                    rw [m8, nI_add]
                    first | refine g_aload_n O 0 d_Mo_narrow_139 rfl rfl ?_ | refine g_aload_nq O 0 d_Mo_narrow_139 rfl rfl ?_
                    first | refine g_aload_n O 0 d_Mo_narrow_140 rfl rfl ?_ | refine g_aload_nq O 0 d_Mo_narrow_140 rfl rfl ?_
                    refine g_getS O c_Mo 8 (by decide) rfl hM.km lk_Mo_36 d_Mo_narrow_141 (hM.a 8 (by omega) (by omega)).1 ?_
                    refine g_iload O d_Mo_narrow_144 rfl ?_
                    refine g_ialdV O 0 rfl rfl (hM.a 8 (by omega) (by omega)).2.1 (by (try simp only [ln_wI]); rw [(hM.a 8 (by omega) (by omega)).2.2]; exact ix_in (n := 40) (show c < 40 from by omega) (by omega)) d_Mo_narrow_146 (Eq.trans (congrArg (cd_I _ (1000 + 0) (B 8)) (cl_nI (j := c) (by omega))) ((hM.K hc).1)) ?_
                    refine g_iload_n O 3 d_Mo_narrow_147 rfl rfl ?_
                    refine g_iload O d_Mo_narrow_148 rfl ?_
                    refine g_iload O d_Mo_narrow_150 rfl ?_
                    refine g_callv (N := 0) (mc := 0) (ms := 0) (av := [_, _, _, _]) O (Or.inl ⟨_, _, cw_Mo_capability⟩) pl_Mo (ci := 6) (q := q_Mo) rfl hM.km ml_Mo_103 im_Mo_capability se_Mo_capability rfl d_Mo_narrow_152 rfl (Nat.le_of_ble_eq_true rfl) (Nat.le_of_ble_eq_true rfl) (Nat.le_of_ble_eq_true rfl) (Nat.le_of_ble_eq_true rfl) ?_
                    refine ct_Mo_capability (pa := some c) hM hw.2.1 hw.2.2.1 (fun _ z => by cases z; exact hc) hn40 (fun w1 hM1 hF1 => ?_)
                    change cd_Go _ _ _ _ _ _ _ _ _ _
                    refine g_iast O 0 rfl rfl (hM1.a 7 (by omega) (by omega)).2.1 (by (try simp only [ln_wI]); rw [(hM1.a 7 (by omega) (by omega)).2.2]; exact ix_in (n := 48) (show j * 8 + i < 48 from by omega) (by omega)) d_Mo_narrow_155 ?_
                    rw [cl_nI (show j * 8 + i < 2 ^ 31 by omega)]
                    have hM2 := rm_S hM1 j hii (some (sC σ)) (fun _ z => by cases z; exact Nat.lt_succ_self _)
                    have hL2 : Rel (setS (addK σ (kH σ c, kT σ c, some c, r', u, false, false)) j i (some (sC σ))) g := (Rel_addK hL (fun c hc => (hM.hw hc).2.2.2) l2 (fun _ z => by cases z; exact ⟨hc, hx⟩)).cg rfl (fun _ => rfl) (fun _ => rfl) (fun _ => rfl) (fun _ => rfl)
                    first | refine g_aload_n O 0 d_Mo_narrow_156 rfl rfl ?_ | refine g_aload_nq O 0 d_Mo_narrow_156 rfl rfl ?_
                    first | refine g_aload_n O 0 d_Mo_narrow_157 rfl rfl ?_ | refine g_aload_nq O 0 d_Mo_narrow_157 rfl rfl ?_
                    refine g_getV O c_Mo 1 (by decide) rfl hM2.km lk_Mo_13 d_Mo_narrow_158 (show cd_I _ 193 m 0 = nI (sC σ + 1) from hM2.C) ?_
                    refine g_callv (N := 0) (mc := 0) (ms := 0) (av := [_]) O (Or.inl ⟨_, _, cw_Mo_fine⟩) pl_Mo (ci := 6) (q := q_Mo) rfl hM2.km ml_Mo_87 im_Mo_fine se_Mo_fine rfl d_Mo_narrow_161 rfl (Nat.le_of_ble_eq_true rfl) (Nat.le_of_ble_eq_true rfl) (Nat.le_of_ble_eq_true rfl) (Nat.le_of_ble_eq_true rfl) ?_
                    refine ct_Mo_fine hM2.km ?_
                    change cd_Go _ _ _ _ _ _ _ _ _ _
                    refine g_iret O d_Mo_narrow_164 (Nat.le_of_ble_eq_true rfl) (Nat.le_of_ble_eq_true rfl) ?_
                    exact MC.fine hM2 hL2 (hF1.tr (cd_Fr.wI (mow_k (k := 7) (by omega) (by omega)))) h
                  · have hn : ¬ sC σ < 40 := fun z => by have := (nI_eq (b := 40) (show sC σ < 2 ^ 31 by omega) (by omega)).mp c120; omega
                    simp [sp_narrow, rD, rF, rS, rU, hDj, hSi, hclj, hcli, hGr, hej, hs, hx, hal, hn] at hr
                    subst hr
                    first | refine g_aload_n O 0 d_Mo_narrow_123 rfl rfl ?_ | refine g_aload_nq O 0 d_Mo_narrow_123 rfl rfl ?_
                    refine g_iconst (v := 5) O d_Mo_narrow_124 (by decide) ?_
                    refine g_callv (N := 0) (mc := 0) (ms := 0) (av := [_]) O (Or.inl ⟨_, _, cw_Mo_fail⟩) pl_Mo (ci := 6) (q := q_Mo) rfl hM.km ml_Mo_84 im_Mo_fail se_Mo_fail rfl d_Mo_narrow_125 rfl (Nat.le_of_ble_eq_true rfl) (Nat.le_of_ble_eq_true rfl) (Nat.le_of_ble_eq_true rfl) (Nat.le_of_ble_eq_true rfl) ?_
                    refine ct_Mo_fail hM.km ?_
                    change cd_Go _ _ _ _ _ _ _ _ _ _
                    refine g_iret O d_Mo_narrow_128 (Nat.le_of_ble_eq_true rfl) (Nat.le_of_ble_eq_true rfl) ?_
                    exact MC.fail (c := 5) (by decide) hM hL cd_Fr.rf h
                · have hal : alw σ c r' = false := decide_eq_false c105
                  simp [sp_narrow, rD, rF, rS, rU, hDj, hSi, hclj, hcli, hGr, hej, hs, hx, hal] at hr
                  subst hr
                  first | refine g_aload_n O 0 d_Mo_narrow_108 rfl rfl ?_ | refine g_aload_nq O 0 d_Mo_narrow_108 rfl rfl ?_
                  refine g_iconst (v := 4) O d_Mo_narrow_109 (by decide) ?_
                  refine g_callv (N := 0) (mc := 0) (ms := 0) (av := [_]) O (Or.inl ⟨_, _, cw_Mo_fail⟩) pl_Mo (ci := 6) (q := q_Mo) rfl hM.km ml_Mo_84 im_Mo_fail se_Mo_fail rfl d_Mo_narrow_110 rfl (Nat.le_of_ble_eq_true rfl) (Nat.le_of_ble_eq_true rfl) (Nat.le_of_ble_eq_true rfl) (Nat.le_of_ble_eq_true rfl) ?_
                  refine ct_Mo_fail hM.km ?_
                  change cd_Go _ _ _ _ _ _ _ _ _ _
                  refine g_iret O d_Mo_narrow_113 (Nat.le_of_ble_eq_true rfl) (Nat.le_of_ble_eq_true rfl) ?_
                  exact MC.fail (c := 4) (by decide) hM hL cd_Fr.rf h
              · have hx := cd_b_ne.mp c85
                simp [sp_narrow, rD, rF, rS, rU, hDj, hSi, hclj, hcli, hGr, hej, hs, hx] at hr
                subst hr
                first | refine g_aload_n O 0 d_Mo_narrow_88 rfl rfl ?_ | refine g_aload_nq O 0 d_Mo_narrow_88 rfl rfl ?_
                refine g_iconst (v := 2) O d_Mo_narrow_89 (by decide) ?_
                refine g_callv (N := 0) (mc := 0) (ms := 0) (av := [_]) O (Or.inl ⟨_, _, cw_Mo_fail⟩) pl_Mo (ci := 6) (q := q_Mo) rfl hM.km ml_Mo_84 im_Mo_fail se_Mo_fail rfl d_Mo_narrow_90 rfl (Nat.le_of_ble_eq_true rfl) (Nat.le_of_ble_eq_true rfl) (Nat.le_of_ble_eq_true rfl) (Nat.le_of_ble_eq_true rfl) ?_
                refine ct_Mo_fail hM.km ?_
                change cd_Go _ _ _ _ _ _ _ _ _ _
                refine g_iret O d_Mo_narrow_93 (Nat.le_of_ble_eq_true rfl) (Nat.le_of_ble_eq_true rfl) ?_
                exact MC.fail (c := 2) (by decide) hM hL cd_Fr.rf h
            · have hs := sl_lt (fun c hc => Nat.lt_of_lt_of_le (hM.wf.1 j i c hjj hii hc) hM.C40) c70
              simp [sp_narrow, rD, rF, rS, rU, hDj, hSi, hclj, hcli, hGr, hej, hs] at hr
              subst hr
              first | refine g_aload_n O 0 d_Mo_narrow_73 rfl rfl ?_ | refine g_aload_nq O 0 d_Mo_narrow_73 rfl rfl ?_
              refine g_iconst (v := 3) O d_Mo_narrow_74 (by decide) ?_
              refine g_callv (N := 0) (mc := 0) (ms := 0) (av := [_]) O (Or.inl ⟨_, _, cw_Mo_fail⟩) pl_Mo (ci := 6) (q := q_Mo) rfl hM.km ml_Mo_84 im_Mo_fail se_Mo_fail rfl d_Mo_narrow_75 rfl (Nat.le_of_ble_eq_true rfl) (Nat.le_of_ble_eq_true rfl) (Nat.le_of_ble_eq_true rfl) (Nat.le_of_ble_eq_true rfl) ?_
              refine ct_Mo_fail hM.km ?_
              change cd_Go _ _ _ _ _ _ _ _ _ _
              refine g_iret O d_Mo_narrow_78 (Nat.le_of_ble_eq_true rfl) (Nat.le_of_ble_eq_true rfl) ?_
              exact MC.fail (c := 3) (by decide) hM hL cd_Fr.rf h
          · have hej := cd_b_ne.mp c46
            simp [sp_narrow, rD, rF, rS, rU, hDj, hSi, hclj, hcli, hGr, hej] at hr
            subst hr
            first | refine g_aload_n O 0 d_Mo_narrow_49 rfl rfl ?_ | refine g_aload_nq O 0 d_Mo_narrow_49 rfl rfl ?_
            refine g_iconst (v := 2) O d_Mo_narrow_50 (by decide) ?_
            refine g_callv (N := 0) (mc := 0) (ms := 0) (av := [_]) O (Or.inl ⟨_, _, cw_Mo_fail⟩) pl_Mo (ci := 6) (q := q_Mo) rfl hM.km ml_Mo_84 im_Mo_fail se_Mo_fail rfl d_Mo_narrow_51 rfl (Nat.le_of_ble_eq_true rfl) (Nat.le_of_ble_eq_true rfl) (Nat.le_of_ble_eq_true rfl) (Nat.le_of_ble_eq_true rfl) ?_
            refine ct_Mo_fail hM.km ?_
            change cd_Go _ _ _ _ _ _ _ _ _ _
            refine g_iret O d_Mo_narrow_54 (Nat.le_of_ble_eq_true rfl) (Nat.le_of_ble_eq_true rfl) ?_
            exact MC.fail (c := 2) (by decide) hM hL cd_Fr.rf h
        · have hGr : isGr r' u = false := by rw [isGr, decide_eq_false c31, Bool.and_false]
          simp [sp_narrow, rD, rF, rS, rU, hGr] at hr
          subst hr
          first | refine g_aload_n O 0 d_Mo_narrow_34 rfl rfl ?_ | refine g_aload_nq O 0 d_Mo_narrow_34 rfl rfl ?_
          refine g_iconst (v := 1) O d_Mo_narrow_35 (by decide) ?_
          refine g_callv (N := 0) (mc := 0) (ms := 0) (av := [_]) O (Or.inl ⟨_, _, cw_Mo_fail⟩) pl_Mo (ci := 6) (q := q_Mo) rfl hM.km ml_Mo_84 im_Mo_fail se_Mo_fail rfl d_Mo_narrow_36 rfl (Nat.le_of_ble_eq_true rfl) (Nat.le_of_ble_eq_true rfl) (Nat.le_of_ble_eq_true rfl) (Nat.le_of_ble_eq_true rfl) ?_
          refine ct_Mo_fail hM.km ?_
          change cd_Go _ _ _ _ _ _ _ _ _ _
          refine g_iret O d_Mo_narrow_39 (Nat.le_of_ble_eq_true rfl) (Nat.le_of_ble_eq_true rfl) ?_
          exact MC.fail (c := 1) (by decide) hM hL cd_Fr.rf h
set_option maxHeartbeats 4000000 in
set_option maxRecDepth 100000 in
theorem om_give {G : cd_Gl} {l : Launch} {w : cd_Wd} {Q : cd_Out → cd_Wd → Prop} {m : Nat} {B : Nat → Nat} {σ : cd_S} {g : Nat → Bool} (hM : RepM w m B σ g) (hL : Rel σ g) (hI : cd_Iv σ) {d s e' t' : Int32} {r : cd_R} (hr : sp_give σ d s e' t' = r) (h : MC w m B r Q) : cd_Ct G l y_Mo_give 1 0 0 [.ref m, .int d, .int s, .int e', .int t'] w Q := by
  refine cd_ofW cw_Mo_give (by simp [Value.category, cat_rf]) (Nat.le_of_ble_eq_true rfl) fun C O => ?_
  change cd_Go G l C _ 0 0 w 0 [some (.ref m), some (.int d), some (.int s), some (.int e'), some (.int t'), none] []
  first | refine g_aload_n O 0 d_Mo_give_0 rfl rfl ?_ | refine g_aload_nq O 0 d_Mo_give_0 rfl rfl ?_
  refine g_iload_n O 1 d_Mo_give_1 rfl rfl ?_
  refine g_callv (N := 0) (mc := 0) (ms := 0) (av := [_]) O (Or.inl ⟨_, _, cw_Mo_noDomain⟩) pl_Mo (ci := 6) (q := q_Mo) rfl hM.km ml_Mo_78 im_Mo_noDomain se_Mo_noDomain rfl d_Mo_give_2 rfl (Nat.le_of_ble_eq_true rfl) (Nat.le_of_ble_eq_true rfl) (Nat.le_of_ble_eq_true rfl) (Nat.le_of_ble_eq_true rfl) ?_
  refine ct_Mo_noDomain hM ?_
  change cd_Go _ _ _ _ _ _ _ _ _ _
  refine g_if_ne  O 37 d_Mo_give_5 (by decide) (fun c5 => ?_) (fun c5 => ?_)
  · have hn := (cd_nbn _).mp c5
    simp [sp_give, rD, rF, rS, rU, hn] at hr
    subst hr
    first | refine g_aload_n O 0 d_Mo_give_37 rfl rfl ?_ | refine g_aload_nq O 0 d_Mo_give_37 rfl rfl ?_
    refine g_iconst (v := 1) O d_Mo_give_38 (by decide) ?_
    refine g_callv (N := 0) (mc := 0) (ms := 0) (av := [_]) O (Or.inl ⟨_, _, cw_Mo_fail⟩) pl_Mo (ci := 6) (q := q_Mo) rfl hM.km ml_Mo_84 im_Mo_fail se_Mo_fail rfl d_Mo_give_39 rfl (Nat.le_of_ble_eq_true rfl) (Nat.le_of_ble_eq_true rfl) (Nat.le_of_ble_eq_true rfl) (Nat.le_of_ble_eq_true rfl) ?_
    refine ct_Mo_fail hM.km ?_
    change cd_Go _ _ _ _ _ _ _ _ _ _
    refine g_iret O d_Mo_give_42 (Nat.le_of_ble_eq_true rfl) (Nat.le_of_ble_eq_true rfl) ?_
    exact MC.fail (c := 1) (by decide) hM hL cd_Fr.rf h
  · have hDj := (cd_nb _).mp c5
    obtain ⟨j, hjj, rfl⟩ := isD_of hM.D6 hDj
    have h6j : j < 6 := Nat.lt_of_lt_of_le hjj hM.D6
    have hclj : (nI j).toNatClampNeg = j := nI_clamp (by omega)
    first | refine g_aload_n O 0 d_Mo_give_8 rfl rfl ?_ | refine g_aload_nq O 0 d_Mo_give_8 rfl rfl ?_
    refine g_iload_n O 3 d_Mo_give_9 rfl rfl ?_
    refine g_callv (N := 0) (mc := 0) (ms := 0) (av := [_]) O (Or.inl ⟨_, _, cw_Mo_noDomain⟩) pl_Mo (ci := 6) (q := q_Mo) rfl hM.km ml_Mo_78 im_Mo_noDomain se_Mo_noDomain rfl d_Mo_give_10 rfl (Nat.le_of_ble_eq_true rfl) (Nat.le_of_ble_eq_true rfl) (Nat.le_of_ble_eq_true rfl) (Nat.le_of_ble_eq_true rfl) ?_
    refine ct_Mo_noDomain hM ?_
    change cd_Go _ _ _ _ _ _ _ _ _ _
    refine g_if_ne  O 37 d_Mo_give_13 (by decide) (fun c13 => ?_) (fun c13 => ?_)
    · have hn := (cd_nbn _).mp c13
      simp [sp_give, rD, rF, rS, rU, hn] at hr
      subst hr
      first | refine g_aload_n O 0 d_Mo_give_37 rfl rfl ?_ | refine g_aload_nq O 0 d_Mo_give_37 rfl rfl ?_
      refine g_iconst (v := 1) O d_Mo_give_38 (by decide) ?_
      refine g_callv (N := 0) (mc := 0) (ms := 0) (av := [_]) O (Or.inl ⟨_, _, cw_Mo_fail⟩) pl_Mo (ci := 6) (q := q_Mo) rfl hM.km ml_Mo_84 im_Mo_fail se_Mo_fail rfl d_Mo_give_39 rfl (Nat.le_of_ble_eq_true rfl) (Nat.le_of_ble_eq_true rfl) (Nat.le_of_ble_eq_true rfl) (Nat.le_of_ble_eq_true rfl) ?_
      refine ct_Mo_fail hM.km ?_
      change cd_Go _ _ _ _ _ _ _ _ _ _
      refine g_iret O d_Mo_give_42 (Nat.le_of_ble_eq_true rfl) (Nat.le_of_ble_eq_true rfl) ?_
      exact MC.fail (c := 1) (by decide) hM hL cd_Fr.rf h
    · have hDe := (cd_nb _).mp c13
      obtain ⟨e, hje, rfl⟩ := isD_of hM.D6 hDe
      have h6e : e < 6 := Nat.lt_of_lt_of_le hje hM.D6
      have hcle : (nI e).toNatClampNeg = e := nI_clamp (by omega)
      first | refine g_aload_n O 0 d_Mo_give_16 rfl rfl ?_ | refine g_aload_nq O 0 d_Mo_give_16 rfl rfl ?_
      refine g_iload_n O 2 d_Mo_give_17 rfl rfl ?_
      refine g_bipush (v := 8) O d_Mo_give_18 (by decide) ?_
      refine g_callv (N := 0) (mc := 0) (ms := 0) (av := [_, _]) O (Or.inl ⟨_, _, cw_Mo_out⟩) pl_Mo (ci := 6) (q := q_Mo) rfl hM.km ml_Mo_66 im_Mo_out se_Mo_out rfl d_Mo_give_20 rfl (Nat.le_of_ble_eq_true rfl) (Nat.le_of_ble_eq_true rfl) (Nat.le_of_ble_eq_true rfl) (Nat.le_of_ble_eq_true rfl) ?_
      refine ct_Mo_out ?_
      change cd_Go _ _ _ _ _ _ _ _ _ _
      refine g_if_ne  O 37 d_Mo_give_23 (by decide) (fun c23 => ?_) (fun c23 => ?_)
      · have hn : isSl _ = false := (cd_nbn _).mp c23
        simp [sp_give, rD, rF, rS, rU, hn] at hr
        subst hr
        first | refine g_aload_n O 0 d_Mo_give_37 rfl rfl ?_ | refine g_aload_nq O 0 d_Mo_give_37 rfl rfl ?_
        refine g_iconst (v := 1) O d_Mo_give_38 (by decide) ?_
        refine g_callv (N := 0) (mc := 0) (ms := 0) (av := [_]) O (Or.inl ⟨_, _, cw_Mo_fail⟩) pl_Mo (ci := 6) (q := q_Mo) rfl hM.km ml_Mo_84 im_Mo_fail se_Mo_fail rfl d_Mo_give_39 rfl (Nat.le_of_ble_eq_true rfl) (Nat.le_of_ble_eq_true rfl) (Nat.le_of_ble_eq_true rfl) (Nat.le_of_ble_eq_true rfl) ?_
        refine ct_Mo_fail hM.km ?_
        change cd_Go _ _ _ _ _ _ _ _ _ _
        refine g_iret O d_Mo_give_42 (Nat.le_of_ble_eq_true rfl) (Nat.le_of_ble_eq_true rfl) ?_
        exact MC.fail (c := 1) (by decide) hM hL cd_Fr.rf h
      · have hSi : isSl _ = true := (cd_nb _).mp c23
        obtain ⟨i, hii, rfl⟩ := isSl_of hSi
        have hcli : (nI i).toNatClampNeg = i := nI_clamp (by omega)
        first | refine g_aload_n O 0 d_Mo_give_26 rfl rfl ?_ | refine g_aload_nq O 0 d_Mo_give_26 rfl rfl ?_
        refine g_iload O d_Mo_give_27 rfl ?_
        refine g_bipush (v := 8) O d_Mo_give_29 (by decide) ?_
        refine g_callv (N := 0) (mc := 0) (ms := 0) (av := [_, _]) O (Or.inl ⟨_, _, cw_Mo_out⟩) pl_Mo (ci := 6) (q := q_Mo) rfl hM.km ml_Mo_66 im_Mo_out se_Mo_out rfl d_Mo_give_31 rfl (Nat.le_of_ble_eq_true rfl) (Nat.le_of_ble_eq_true rfl) (Nat.le_of_ble_eq_true rfl) (Nat.le_of_ble_eq_true rfl) ?_
        refine ct_Mo_out ?_
        change cd_Go _ _ _ _ _ _ _ _ _ _
        refine g_if_eq  O 43 d_Mo_give_34 (by decide) (fun c34 => ?_) (fun c34 => ?_)
        · have hSt : isSl _ = true := (cd_nb _).mp c34
          obtain ⟨t, hit, rfl⟩ := isSl_of hSt
          have hclt : (nI t).toNatClampNeg = t := nI_clamp (by omega)
          first | refine g_aload_n O 0 d_Mo_give_43 rfl rfl ?_ | refine g_aload_nq O 0 d_Mo_give_43 rfl rfl ?_
          refine g_getS O c_Mo 3 (by decide) rfl hM.km lk_Mo_19 d_Mo_give_44 (hM.a 3 (by omega) (by omega)).1 ?_
          refine g_iload_n O 1 d_Mo_give_47 rfl rfl ?_
          refine g_zaldV O 1 rfl rfl (hM.a 3 (by omega) (by omega)).2.1 (by (try simp only [ln_wI]); rw [(hM.a 3 (by omega) (by omega)).2.2]; exact ix_in (n := 6) (show j < 6 from by omega) (by omega)) d_Mo_give_48 (Eq.trans (congrArg (cd_I _ (1000 + 1) (B 3)) (cl_nI (j := j) (by omega))) (hM.E h6j)) ?_
          refine g_if_ne  O 61 d_Mo_give_49 (by decide) (fun c49 => ?_) (fun c49 => ?_)
          · have hej := cd_b_ne.mp c49
            simp [sp_give, rD, rF, rS, rU, hDj, hDe, hSi, hSt, hclj, hcle, hcli, hclt, hej] at hr
            subst hr
            first | refine g_aload_n O 0 d_Mo_give_61 rfl rfl ?_ | refine g_aload_nq O 0 d_Mo_give_61 rfl rfl ?_
            refine g_iconst (v := 2) O d_Mo_give_62 (by decide) ?_
            refine g_callv (N := 0) (mc := 0) (ms := 0) (av := [_]) O (Or.inl ⟨_, _, cw_Mo_fail⟩) pl_Mo (ci := 6) (q := q_Mo) rfl hM.km ml_Mo_84 im_Mo_fail se_Mo_fail rfl d_Mo_give_63 rfl (Nat.le_of_ble_eq_true rfl) (Nat.le_of_ble_eq_true rfl) (Nat.le_of_ble_eq_true rfl) (Nat.le_of_ble_eq_true rfl) ?_
            refine ct_Mo_fail hM.km ?_
            change cd_Go _ _ _ _ _ _ _ _ _ _
            refine g_iret O d_Mo_give_66 (Nat.le_of_ble_eq_true rfl) (Nat.le_of_ble_eq_true rfl) ?_
            exact MC.fail (c := 2) (by decide) hM hL cd_Fr.rf h
          · have hej := cd_b_eq.mp c49
            first | refine g_aload_n O 0 d_Mo_give_52 rfl rfl ?_ | refine g_aload_nq O 0 d_Mo_give_52 rfl rfl ?_
            refine g_getS O c_Mo 3 (by decide) rfl hM.km lk_Mo_19 d_Mo_give_53 (hM.a 3 (by omega) (by omega)).1 ?_
            refine g_iload_n O 3 d_Mo_give_56 rfl rfl ?_
            refine g_zaldV O 1 rfl rfl (hM.a 3 (by omega) (by omega)).2.1 (by (try simp only [ln_wI]); rw [(hM.a 3 (by omega) (by omega)).2.2]; exact ix_in (n := 6) (show e < 6 from by omega) (by omega)) d_Mo_give_57 (Eq.trans (congrArg (cd_I _ (1000 + 1) (B 3)) (cl_nI (j := e) (by omega))) (hM.E h6e)) ?_
            refine g_if_eq  O 67 d_Mo_give_58 (by decide) (fun c58 => ?_) (fun c58 => ?_)
            · have hee := cd_b_eq.mp c58
              first | refine g_aload_n O 0 d_Mo_give_67 rfl rfl ?_ | refine g_aload_nq O 0 d_Mo_give_67 rfl rfl ?_
              refine g_getS O c_Mo 7 (by decide) rfl hM.km lk_Mo_33 d_Mo_give_68 (hM.a 7 (by omega) (by omega)).1 ?_
              refine g_iload_n O 1 d_Mo_give_71 rfl rfl ?_
              refine g_bipush (v := 8) O d_Mo_give_72 (by decide) ?_
              refine g_imul O d_Mo_give_74 ?_
              refine g_iload_n O 2 d_Mo_give_75 rfl rfl ?_
              refine g_iadd O d_Mo_give_76 ?_
              rw [m8, nI_add]
              refine g_ialdV O 0 rfl rfl (hM.a 7 (by omega) (by omega)).2.1 (by (try simp only [ln_wI]); rw [(hM.a 7 (by omega) (by omega)).2.2]; exact ix_in (n := 48) (show j * 8 + i < 48 from by omega) (by omega)) d_Mo_give_77 (Eq.trans (congrArg (cd_I _ (1000 + 0) (B 7)) (cl_nI (j := j * 8 + i) (by omega))) (hM.S h6j hii)) ?_
              refine g_if_ge  O 87 d_Mo_give_78 (by decide) (fun c78 => ?_) (fun c78 => ?_)
              · obtain ⟨c, hs⟩ := sl_ge (fun c hc => Nat.lt_of_lt_of_le (hM.wf.1 j i c hjj hii hc) hM.C40) c78
                have hc := hM.wf.1 j i c hjj hii hs
                simp [sp_give, rD, rF, rS, rU, hDj, hDe, hSi, hSt, hclj, hcle, hcli, hclt, hej, hee, hs] at hr
                subst hr
                first | refine g_aload_n O 0 d_Mo_give_87 rfl rfl ?_ | refine g_aload_nq O 0 d_Mo_give_87 rfl rfl ?_
                refine g_getS O c_Mo 7 (by decide) rfl hM.km lk_Mo_33 d_Mo_give_88 (hM.a 7 (by omega) (by omega)).1 ?_
                refine g_iload_n O 3 d_Mo_give_91 rfl rfl ?_
                refine g_bipush (v := 8) O d_Mo_give_92 (by decide) ?_
                refine g_imul O d_Mo_give_94 ?_
                refine g_iload O d_Mo_give_95 rfl ?_
                refine g_iadd O d_Mo_give_97 ?_
                rw [m8, nI_add]
                refine g_ialdV O 0 rfl rfl (hM.a 7 (by omega) (by omega)).2.1 (by (try simp only [ln_wI]); rw [(hM.a 7 (by omega) (by omega)).2.2]; exact ix_in (n := 48) (show e * 8 + t < 48 from by omega) (by omega)) d_Mo_give_98 (Eq.trans (congrArg (cd_I _ (1000 + 0) (B 7)) (cl_nI (j := e * 8 + t) (by omega))) (hM.S h6e hit)) ?_
                refine g_if_lt  O 106 d_Mo_give_99 (by decide) (fun c99 => ?_) (fun c99 => ?_)
                · have e1 : (sS σ e t).isSome = false := by rw [(cd_lt (fun c hc => Nat.lt_of_lt_of_le (hM.wf.1 e t c hje hit hc) hM.C40)).mp c99]; rfl
                  rw [e1] at h
                  refine g_iconst (v := 0) O d_Mo_give_106 (by decide) ?_
                  refine g_istore O d_Mo_give_107 (Nat.le_of_ble_eq_true rfl) ?_
                  first | refine g_aload_n O 0 d_Mo_give_109 rfl rfl ?_ | refine g_aload_nq O 0 d_Mo_give_109 rfl rfl ?_
                  refine g_getS O c_Mo 7 (by decide) rfl hM.km lk_Mo_33 d_Mo_give_110 (hM.a 7 (by omega) (by omega)).1 ?_
                  refine g_iload_n O 3 d_Mo_give_113 rfl rfl ?_
                  refine g_bipush (v := 8) O d_Mo_give_114 (by decide) ?_
                  refine g_imul O d_Mo_give_116 ?_
                  refine g_iload O d_Mo_give_117 rfl ?_
                  refine g_iadd O d_Mo_give_119 ?_
                  rw [m8, nI_add]
                  first | refine g_aload_n O 0 d_Mo_give_120 rfl rfl ?_ | refine g_aload_nq O 0 d_Mo_give_120 rfl rfl ?_
                  refine g_getS O c_Mo 7 (by decide) rfl hM.km lk_Mo_33 d_Mo_give_121 (hM.a 7 (by omega) (by omega)).1 ?_
                  refine g_iload_n O 1 d_Mo_give_124 rfl rfl ?_
                  refine g_bipush (v := 8) O d_Mo_give_125 (by decide) ?_
                  refine g_imul O d_Mo_give_127 ?_
                  refine g_iload_n O 2 d_Mo_give_128 rfl rfl ?_
                  refine g_iadd O d_Mo_give_129 ?_
                  rw [m8, nI_add]
                  refine g_ialdV O 0 rfl rfl (hM.a 7 (by omega) (by omega)).2.1 (by (try simp only [ln_wI]); rw [(hM.a 7 (by omega) (by omega)).2.2]; exact ix_in (n := 48) (show j * 8 + i < 48 from by omega) (by omega)) d_Mo_give_130 (Eq.trans (congrArg (cd_I _ (1000 + 0) (B 7)) (cl_nI (j := j * 8 + i) (by omega))) (((hM.S h6j hii).trans (congrArg cd_l hs) : _ = nI c))) ?_
                  refine g_iast O 0 rfl rfl (hM.a 7 (by omega) (by omega)).2.1 (by (try simp only [ln_wI]); rw [(hM.a 7 (by omega) (by omega)).2.2]; exact ix_in (n := 48) (show e * 8 + t < 48 from by omega) (by omega)) d_Mo_give_131 ?_
                  rw [cl_nI (show e * 8 + t < 2 ^ 31 by omega)]
                  have hM1 := rm_S hM e hit (some c) (fun _ z => by cases z; exact hc)
                  first | refine g_aload_n O 0 d_Mo_give_132 rfl rfl ?_ | refine g_aload_nq O 0 d_Mo_give_132 rfl rfl ?_
                  refine g_iload O d_Mo_give_133 rfl ?_
                  refine g_callv (N := 0) (mc := 0) (ms := 0) (av := [_]) O (Or.inl ⟨_, _, cw_Mo_fine⟩) pl_Mo (ci := 6) (q := q_Mo) rfl hM1.km ml_Mo_87 im_Mo_fine se_Mo_fine rfl d_Mo_give_135 rfl (Nat.le_of_ble_eq_true rfl) (Nat.le_of_ble_eq_true rfl) (Nat.le_of_ble_eq_true rfl) (Nat.le_of_ble_eq_true rfl) ?_
                  refine ct_Mo_fine hM1.km ?_
                  change cd_Go _ _ _ _ _ _ _ _ _ _
                  refine g_iret O d_Mo_give_138 (Nat.le_of_ble_eq_true rfl) (Nat.le_of_ble_eq_true rfl) ?_
                  exact MC.fine hM1 (hL.cg rfl (fun _ => rfl) (fun _ => rfl) (fun _ => rfl) (fun _ => rfl)) (cd_Fr.wI (mow_k (k := 7) (by omega) (by omega))) h
                · have e1 : (sS σ e t).isSome = true := by cases hz : sS σ e t with
                    | none => rw [hz] at c99; exact absurd (by decide) c99
                    | some z => rfl
                  rw [e1] at h
                  refine g_iconst (v := 1) O d_Mo_give_102 (by decide) ?_
                  refine g_goto O 107 d_Mo_give_103 (by decide) ?_
                  refine g_istore O d_Mo_give_107 (Nat.le_of_ble_eq_true rfl) ?_
                  first | refine g_aload_n O 0 d_Mo_give_109 rfl rfl ?_ | refine g_aload_nq O 0 d_Mo_give_109 rfl rfl ?_
                  refine g_getS O c_Mo 7 (by decide) rfl hM.km lk_Mo_33 d_Mo_give_110 (hM.a 7 (by omega) (by omega)).1 ?_
                  refine g_iload_n O 3 d_Mo_give_113 rfl rfl ?_
                  refine g_bipush (v := 8) O d_Mo_give_114 (by decide) ?_
                  refine g_imul O d_Mo_give_116 ?_
                  refine g_iload O d_Mo_give_117 rfl ?_
                  refine g_iadd O d_Mo_give_119 ?_
                  rw [m8, nI_add]
                  first | refine g_aload_n O 0 d_Mo_give_120 rfl rfl ?_ | refine g_aload_nq O 0 d_Mo_give_120 rfl rfl ?_
                  refine g_getS O c_Mo 7 (by decide) rfl hM.km lk_Mo_33 d_Mo_give_121 (hM.a 7 (by omega) (by omega)).1 ?_
                  refine g_iload_n O 1 d_Mo_give_124 rfl rfl ?_
                  refine g_bipush (v := 8) O d_Mo_give_125 (by decide) ?_
                  refine g_imul O d_Mo_give_127 ?_
                  refine g_iload_n O 2 d_Mo_give_128 rfl rfl ?_
                  refine g_iadd O d_Mo_give_129 ?_
                  rw [m8, nI_add]
                  refine g_ialdV O 0 rfl rfl (hM.a 7 (by omega) (by omega)).2.1 (by (try simp only [ln_wI]); rw [(hM.a 7 (by omega) (by omega)).2.2]; exact ix_in (n := 48) (show j * 8 + i < 48 from by omega) (by omega)) d_Mo_give_130 (Eq.trans (congrArg (cd_I _ (1000 + 0) (B 7)) (cl_nI (j := j * 8 + i) (by omega))) (((hM.S h6j hii).trans (congrArg cd_l hs) : _ = nI c))) ?_
                  refine g_iast O 0 rfl rfl (hM.a 7 (by omega) (by omega)).2.1 (by (try simp only [ln_wI]); rw [(hM.a 7 (by omega) (by omega)).2.2]; exact ix_in (n := 48) (show e * 8 + t < 48 from by omega) (by omega)) d_Mo_give_131 ?_
                  rw [cl_nI (show e * 8 + t < 2 ^ 31 by omega)]
                  have hM1 := rm_S hM e hit (some c) (fun _ z => by cases z; exact hc)
                  first | refine g_aload_n O 0 d_Mo_give_132 rfl rfl ?_ | refine g_aload_nq O 0 d_Mo_give_132 rfl rfl ?_
                  refine g_iload O d_Mo_give_133 rfl ?_
                  refine g_callv (N := 0) (mc := 0) (ms := 0) (av := [_]) O (Or.inl ⟨_, _, cw_Mo_fine⟩) pl_Mo (ci := 6) (q := q_Mo) rfl hM1.km ml_Mo_87 im_Mo_fine se_Mo_fine rfl d_Mo_give_135 rfl (Nat.le_of_ble_eq_true rfl) (Nat.le_of_ble_eq_true rfl) (Nat.le_of_ble_eq_true rfl) (Nat.le_of_ble_eq_true rfl) ?_
                  refine ct_Mo_fine hM1.km ?_
                  change cd_Go _ _ _ _ _ _ _ _ _ _
                  refine g_iret O d_Mo_give_138 (Nat.le_of_ble_eq_true rfl) (Nat.le_of_ble_eq_true rfl) ?_
                  exact MC.fine hM1 (hL.cg rfl (fun _ => rfl) (fun _ => rfl) (fun _ => rfl) (fun _ => rfl)) (cd_Fr.wI (mow_k (k := 7) (by omega) (by omega))) h
              · have hs := sl_lt (fun c hc => Nat.lt_of_lt_of_le (hM.wf.1 j i c hjj hii hc) hM.C40) c78
                simp [sp_give, rD, rF, rS, rU, hDj, hDe, hSi, hSt, hclj, hcle, hcli, hclt, hej, hee, hs] at hr
                subst hr
                first | refine g_aload_n O 0 d_Mo_give_81 rfl rfl ?_ | refine g_aload_nq O 0 d_Mo_give_81 rfl rfl ?_
                refine g_iconst (v := 3) O d_Mo_give_82 (by decide) ?_
                refine g_callv (N := 0) (mc := 0) (ms := 0) (av := [_]) O (Or.inl ⟨_, _, cw_Mo_fail⟩) pl_Mo (ci := 6) (q := q_Mo) rfl hM.km ml_Mo_84 im_Mo_fail se_Mo_fail rfl d_Mo_give_83 rfl (Nat.le_of_ble_eq_true rfl) (Nat.le_of_ble_eq_true rfl) (Nat.le_of_ble_eq_true rfl) (Nat.le_of_ble_eq_true rfl) ?_
                refine ct_Mo_fail hM.km ?_
                change cd_Go _ _ _ _ _ _ _ _ _ _
                refine g_iret O d_Mo_give_86 (Nat.le_of_ble_eq_true rfl) (Nat.le_of_ble_eq_true rfl) ?_
                exact MC.fail (c := 3) (by decide) hM hL cd_Fr.rf h
            · have hee := cd_b_ne.mp c58
              simp [sp_give, rD, rF, rS, rU, hDj, hDe, hSi, hSt, hclj, hcle, hcli, hclt, hej, hee] at hr
              subst hr
              first | refine g_aload_n O 0 d_Mo_give_61 rfl rfl ?_ | refine g_aload_nq O 0 d_Mo_give_61 rfl rfl ?_
              refine g_iconst (v := 2) O d_Mo_give_62 (by decide) ?_
              refine g_callv (N := 0) (mc := 0) (ms := 0) (av := [_]) O (Or.inl ⟨_, _, cw_Mo_fail⟩) pl_Mo (ci := 6) (q := q_Mo) rfl hM.km ml_Mo_84 im_Mo_fail se_Mo_fail rfl d_Mo_give_63 rfl (Nat.le_of_ble_eq_true rfl) (Nat.le_of_ble_eq_true rfl) (Nat.le_of_ble_eq_true rfl) (Nat.le_of_ble_eq_true rfl) ?_
              refine ct_Mo_fail hM.km ?_
              change cd_Go _ _ _ _ _ _ _ _ _ _
              refine g_iret O d_Mo_give_66 (Nat.le_of_ble_eq_true rfl) (Nat.le_of_ble_eq_true rfl) ?_
              exact MC.fail (c := 2) (by decide) hM hL cd_Fr.rf h
        · have hn : isSl _ = false := (cd_nbn _).mp c34
          simp [sp_give, rD, rF, rS, rU, hn] at hr
          subst hr
          first | refine g_aload_n O 0 d_Mo_give_37 rfl rfl ?_ | refine g_aload_nq O 0 d_Mo_give_37 rfl rfl ?_
          refine g_iconst (v := 1) O d_Mo_give_38 (by decide) ?_
          refine g_callv (N := 0) (mc := 0) (ms := 0) (av := [_]) O (Or.inl ⟨_, _, cw_Mo_fail⟩) pl_Mo (ci := 6) (q := q_Mo) rfl hM.km ml_Mo_84 im_Mo_fail se_Mo_fail rfl d_Mo_give_39 rfl (Nat.le_of_ble_eq_true rfl) (Nat.le_of_ble_eq_true rfl) (Nat.le_of_ble_eq_true rfl) (Nat.le_of_ble_eq_true rfl) ?_
          refine ct_Mo_fail hM.km ?_
          change cd_Go _ _ _ _ _ _ _ _ _ _
          refine g_iret O d_Mo_give_42 (Nat.le_of_ble_eq_true rfl) (Nat.le_of_ble_eq_true rfl) ?_
          exact MC.fail (c := 1) (by decide) hM hL cd_Fr.rf h
