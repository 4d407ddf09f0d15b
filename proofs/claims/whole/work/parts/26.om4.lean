set_option maxHeartbeats 4000000 in
set_option maxRecDepth 100000 in
theorem om_revoke {G : cd_Gl} {l : Launch} {w : cd_Wd} {Q : cd_Out → cd_Wd → Prop} {m : Nat} {B : Nat → Nat} {σ : cd_S} {g : Nat → Bool} (hM : RepM w m B σ g) (hL : Rel σ g) (hI : cd_Iv σ) {d s : Int32} {r : cd_R} (hr : sp_revoke σ d s = r) (h : MC w m B r Q) : cd_Ct G l y_Mo_revoke 3 0 0 [.ref m, .int d, .int s] w Q := by
  refine cd_ofW cw_Mo_revoke (by simp [Value.category, cat_rf]) (Nat.le_of_ble_eq_true rfl) fun C O => ?_
  change cd_Go G l C _ 0 0 w 0 [some (.ref m), some (.int d), some (.int s), none, none] []
  first | refine g_aload_n O 0 d_Mo_revoke_0 rfl rfl ?_ | refine g_aload_nq O 0 d_Mo_revoke_0 rfl rfl ?_
  refine g_iload_n O 1 d_Mo_revoke_1 rfl rfl ?_
  refine g_callv (N := 0) (mc := 0) (ms := 0) (av := [_]) O (Or.inl ⟨_, _, cw_Mo_noDomain⟩) pl_Mo (ci := 6) (q := q_Mo) rfl hM.km ml_Mo_78 im_Mo_noDomain se_Mo_noDomain rfl d_Mo_revoke_2 rfl (Nat.le_of_ble_eq_true rfl) (Nat.le_of_ble_eq_true rfl) (Nat.le_of_ble_eq_true rfl) (Nat.le_of_ble_eq_true rfl) ?_
  refine ct_Mo_noDomain hM ?_
  change cd_Go _ _ _ _ _ _ _ _ _ _
  refine g_if_ne  O 18 d_Mo_revoke_5 (by decide) (fun c5 => ?_) (fun c5 => ?_)
  · have hn := (cd_nbn _).mp c5
    simp [sp_revoke, rD, rF, rS, rU, hn] at hr
    subst hr
    first | refine g_aload_n O 0 d_Mo_revoke_18 rfl rfl ?_ | refine g_aload_nq O 0 d_Mo_revoke_18 rfl rfl ?_
    refine g_iconst (v := 1) O d_Mo_revoke_19 (by decide) ?_
    refine g_callv (N := 0) (mc := 0) (ms := 0) (av := [_]) O (Or.inl ⟨_, _, cw_Mo_fail⟩) pl_Mo (ci := 6) (q := q_Mo) rfl hM.km ml_Mo_84 im_Mo_fail se_Mo_fail rfl d_Mo_revoke_20 rfl (Nat.le_of_ble_eq_true rfl) (Nat.le_of_ble_eq_true rfl) (Nat.le_of_ble_eq_true rfl) (Nat.le_of_ble_eq_true rfl) ?_
    refine ct_Mo_fail hM.km ?_
    change cd_Go _ _ _ _ _ _ _ _ _ _
    refine g_iret O d_Mo_revoke_23 (Nat.le_of_ble_eq_true rfl) (Nat.le_of_ble_eq_true rfl) ?_
    exact MC.fail (c := 1) (by decide) hM hL cd_Fr.rf h
  · have hDj := (cd_nb _).mp c5
    obtain ⟨j, hjj, rfl⟩ := isD_of hM.D6 hDj
    have h6j : j < 6 := Nat.lt_of_lt_of_le hjj hM.D6
    have hclj : (nI j).toNatClampNeg = j := nI_clamp (by omega)
    first | refine g_aload_n O 0 d_Mo_revoke_8 rfl rfl ?_ | refine g_aload_nq O 0 d_Mo_revoke_8 rfl rfl ?_
    refine g_iload_n O 2 d_Mo_revoke_9 rfl rfl ?_
    refine g_bipush (v := 8) O d_Mo_revoke_10 (by decide) ?_
    refine g_callv (N := 0) (mc := 0) (ms := 0) (av := [_, _]) O (Or.inl ⟨_, _, cw_Mo_out⟩) pl_Mo (ci := 6) (q := q_Mo) rfl hM.km ml_Mo_66 im_Mo_out se_Mo_out rfl d_Mo_revoke_12 rfl (Nat.le_of_ble_eq_true rfl) (Nat.le_of_ble_eq_true rfl) (Nat.le_of_ble_eq_true rfl) (Nat.le_of_ble_eq_true rfl) ?_
    refine ct_Mo_out ?_
    change cd_Go _ _ _ _ _ _ _ _ _ _
    refine g_if_eq  O 24 d_Mo_revoke_15 (by decide) (fun c15 => ?_) (fun c15 => ?_)
    · have hSi : isSl _ = true := (cd_nb _).mp c15
      obtain ⟨i, hii, rfl⟩ := isSl_of hSi
      have hcli : (nI i).toNatClampNeg = i := nI_clamp (by omega)
      first | refine g_aload_n O 0 d_Mo_revoke_24 rfl rfl ?_ | refine g_aload_nq O 0 d_Mo_revoke_24 rfl rfl ?_
      refine g_getS O c_Mo 3 (by decide) rfl hM.km lk_Mo_19 d_Mo_revoke_25 (hM.a 3 (by omega) (by omega)).1 ?_
      refine g_iload_n O 1 d_Mo_revoke_28 rfl rfl ?_
      refine g_zaldV O 1 rfl rfl (hM.a 3 (by omega) (by omega)).2.1 (by (try simp only [ln_wI]); rw [(hM.a 3 (by omega) (by omega)).2.2]; exact ix_in (n := 6) (show j < 6 from by omega) (by omega)) d_Mo_revoke_29 (Eq.trans (congrArg (cd_I _ (1000 + 1) (B 3)) (cl_nI (j := j) (by omega))) (hM.E h6j)) ?_
      refine g_if_eq  O 39 d_Mo_revoke_30 (by decide) (fun c30 => ?_) (fun c30 => ?_)
      · have hej := cd_b_eq.mp c30
        first | refine g_aload_n O 0 d_Mo_revoke_39 rfl rfl ?_ | refine g_aload_nq O 0 d_Mo_revoke_39 rfl rfl ?_
        refine g_getS O c_Mo 7 (by decide) rfl hM.km lk_Mo_33 d_Mo_revoke_40 (hM.a 7 (by omega) (by omega)).1 ?_
        refine g_iload_n O 1 d_Mo_revoke_43 rfl rfl ?_
        refine g_bipush (v := 8) O d_Mo_revoke_44 (by decide) ?_
        refine g_imul O d_Mo_revoke_46 ?_
        refine g_iload_n O 2 d_Mo_revoke_47 rfl rfl ?_
        refine g_iadd O d_Mo_revoke_48 ?_
        rw [m8, nI_add]
        refine g_ialdV O 0 rfl rfl (hM.a 7 (by omega) (by omega)).2.1 (by (try simp only [ln_wI]); rw [(hM.a 7 (by omega) (by omega)).2.2]; exact ix_in (n := 48) (show j * 8 + i < 48 from by omega) (by omega)) d_Mo_revoke_49 (Eq.trans (congrArg (cd_I _ (1000 + 0) (B 7)) (cl_nI (j := j * 8 + i) (by omega))) (hM.S h6j hii)) ?_
        refine g_istore_n O 3 d_Mo_revoke_50 rfl (Nat.le_of_ble_eq_true rfl) ?_
        refine g_iload_n O 3 d_Mo_revoke_51 rfl rfl ?_
        refine g_if_ge  O 61 d_Mo_revoke_52 (by decide) (fun c52 => ?_) (fun c52 => ?_)
        · obtain ⟨c, hs⟩ := sl_ge (fun c hc => Nat.lt_of_lt_of_le (hM.wf.1 j i c hjj hii hc) hM.C40) c52
          have hc := hM.wf.1 j i c hjj hii hs
          have hC := hM.C40
          have hw := hM.hw hc
          rw [hs]
          change cd_Go G l C _ _ _ _ _ [some (.ref m), some (.int (nI j)), some (.int (nI i)), some (.int (nI c)), none] []
          first | refine g_aload_n O 0 d_Mo_revoke_61 rfl rfl ?_ | refine g_aload_nq O 0 d_Mo_revoke_61 rfl rfl ?_
          refine g_iload_n O 3 d_Mo_revoke_62 rfl rfl ?_
          refine g_callv (N := 0) (mc := 0) (ms := 0) (av := [_]) O (Or.inl ⟨_, _, cw_Mo_home⟩) pl_Mo (ci := 6) (q := q_Mo) rfl hM.km ml_Mo_70 im_Mo_home se_Mo_home rfl d_Mo_revoke_63 rfl (Nat.le_of_ble_eq_true rfl) (Nat.le_of_ble_eq_true rfl) (Nat.le_of_ble_eq_true rfl) (Nat.le_of_ble_eq_true rfl) ?_
          refine ct_Mo_home hM hc ?_
          change cd_Go _ _ _ _ _ _ _ _ _ _
          refine g_iload_n O 1 d_Mo_revoke_66 rfl rfl ?_
          refine g_icmp_eq  O 76 d_Mo_revoke_67 (by decide) (fun c67 => ?_) (fun c67 => ?_)
          · have hn : kH σ c = j := (nI_eq (by omega) (by omega)).mp c67
            simp [sp_revoke, rD, rF, rS, rU, hDj, hSi, hclj, hcli, hej, hs, hn] at hr
            subst hr
            have hSp := spr_V hI hL (fun c hc => (hM.hw hc).2.2.2) hc
            first | refine g_aload_n O 0 d_Mo_revoke_76 rfl rfl ?_ | refine g_aload_nq O 0 d_Mo_revoke_76 rfl rfl ?_
            refine g_callv (N := 2) (mc := 0) (ms := 0) (av := []) O (Or.inl ⟨_, _, cw_Mo_alive⟩) pl_Mo (ci := 6) (q := q_Mo) rfl hM.km ml_Mo_107 im_Mo_alive se_Mo_alive rfl d_Mo_revoke_77 rfl (Nat.le_of_ble_eq_true rfl) (Nat.le_of_ble_eq_true rfl) (Nat.le_of_ble_eq_true rfl) (Nat.le_of_ble_eq_true rfl) ?_
            refine ct_Mo_alive hM ?_
            change cd_Go _ _ _ _ _ _ _ _ _ _
            refine g_istore O d_Mo_revoke_80 (Nat.le_of_ble_eq_true rfl) ?_
            first | refine g_aload_n O 0 d_Mo_revoke_82 rfl rfl ?_ | refine g_aload_nq O 0 d_Mo_revoke_82 rfl rfl ?_
            refine g_getS O c_Mo 12 (by decide) rfl hM.km lk_Mo_48 d_Mo_revoke_83 (hM.a 12 (by omega) (by omega)).1 ?_
            refine g_iload_n O 3 d_Mo_revoke_86 rfl rfl ?_
            refine g_iconst (v := 1) O d_Mo_revoke_87 (by decide) ?_
            refine g_zast O 1 rfl rfl (hM.a 12 (by omega) (by omega)).2.1 (by (try simp only [ln_wI]); rw [(hM.a 12 (by omega) (by omega)).2.2]; exact ix_in (n := 40) (show c < 40 from by omega) (by omega)) (by first | exact Or.inl rfl | exact Or.inr rfl | assumption) d_Mo_revoke_88 ?_
            rw [cl_nI (show c < 2 ^ 31 by omega)]
            have hM2 := (spr_ok hSp).2.2.2.1.rm (rm_V (rm_G hM c) c true)
            first | refine g_aload_n O 0 d_Mo_revoke_89 rfl rfl ?_ | refine g_aload_nq O 0 d_Mo_revoke_89 rfl rfl ?_
            refine g_iload O d_Mo_revoke_90 rfl ?_
            first | refine g_aload_n O 0 d_Mo_revoke_92 rfl rfl ?_ | refine g_aload_nq O 0 d_Mo_revoke_92 rfl rfl ?_
            refine g_callv (N := 2) (mc := 0) (ms := 0) (av := []) O (Or.inl ⟨_, _, cw_Mo_alive⟩) pl_Mo (ci := 6) (q := q_Mo) rfl hM2.km ml_Mo_107 im_Mo_alive se_Mo_alive rfl d_Mo_revoke_93 rfl (Nat.le_of_ble_eq_true rfl) (Nat.le_of_ble_eq_true rfl) (Nat.le_of_ble_eq_true rfl) (Nat.le_of_ble_eq_true rfl) ?_
            refine ct_Mo_alive hM2 ?_
            change cd_Go _ _ _ _ _ _ _ _ _ _
            refine g_isub O d_Mo_revoke_96 ?_
            rw [died hSp]
            refine g_callv (N := 0) (mc := 0) (ms := 0) (av := [_]) O (Or.inl ⟨_, _, cw_Mo_fine⟩) pl_Mo (ci := 6) (q := q_Mo) rfl hM2.km ml_Mo_87 im_Mo_fine se_Mo_fine rfl d_Mo_revoke_97 rfl (Nat.le_of_ble_eq_true rfl) (Nat.le_of_ble_eq_true rfl) (Nat.le_of_ble_eq_true rfl) (Nat.le_of_ble_eq_true rfl) ?_
            refine ct_Mo_fine hM2.km ?_
            change cd_Go _ _ _ _ _ _ _ _ _ _
            refine g_iret O d_Mo_revoke_100 (Nat.le_of_ble_eq_true rfl) (Nat.le_of_ble_eq_true rfl) ?_
            exact MC.fine hM2 (spr_ok hSp).1 (cd_Fr.wI (mow_k (k := 12) (by omega) (by omega))) h
          · have hn : ¬ kH σ c = j := fun z => c67 (by rw [z])
            simp [sp_revoke, rD, rF, rS, rU, hDj, hSi, hclj, hcli, hej, hs, hn] at hr
            subst hr
            first | refine g_aload_n O 0 d_Mo_revoke_70 rfl rfl ?_ | refine g_aload_nq O 0 d_Mo_revoke_70 rfl rfl ?_
            refine g_iconst (v := 4) O d_Mo_revoke_71 (by decide) ?_
            refine g_callv (N := 0) (mc := 0) (ms := 0) (av := [_]) O (Or.inl ⟨_, _, cw_Mo_fail⟩) pl_Mo (ci := 6) (q := q_Mo) rfl hM.km ml_Mo_84 im_Mo_fail se_Mo_fail rfl d_Mo_revoke_72 rfl (Nat.le_of_ble_eq_true rfl) (Nat.le_of_ble_eq_true rfl) (Nat.le_of_ble_eq_true rfl) (Nat.le_of_ble_eq_true rfl) ?_
            refine ct_Mo_fail hM.km ?_
            change cd_Go _ _ _ _ _ _ _ _ _ _
            refine g_iret O d_Mo_revoke_75 (Nat.le_of_ble_eq_true rfl) (Nat.le_of_ble_eq_true rfl) ?_
            exact MC.fail (c := 4) (by decide) hM hL cd_Fr.rf h
        · have hs := sl_lt (fun c hc => Nat.lt_of_lt_of_le (hM.wf.1 j i c hjj hii hc) hM.C40) c52
          simp [sp_revoke, rD, rF, rS, rU, hDj, hSi, hclj, hcli, hej, hs] at hr
          subst hr
          first | refine g_aload_n O 0 d_Mo_revoke_55 rfl rfl ?_ | refine g_aload_nq O 0 d_Mo_revoke_55 rfl rfl ?_
          refine g_iconst (v := 3) O d_Mo_revoke_56 (by decide) ?_
          refine g_callv (N := 0) (mc := 0) (ms := 0) (av := [_]) O (Or.inl ⟨_, _, cw_Mo_fail⟩) pl_Mo (ci := 6) (q := q_Mo) rfl hM.km ml_Mo_84 im_Mo_fail se_Mo_fail rfl d_Mo_revoke_57 rfl (Nat.le_of_ble_eq_true rfl) (Nat.le_of_ble_eq_true rfl) (Nat.le_of_ble_eq_true rfl) (Nat.le_of_ble_eq_true rfl) ?_
          refine ct_Mo_fail hM.km ?_
          change cd_Go _ _ _ _ _ _ _ _ _ _
          refine g_iret O d_Mo_revoke_60 (Nat.le_of_ble_eq_true rfl) (Nat.le_of_ble_eq_true rfl) ?_
          exact MC.fail (c := 3) (by decide) hM hL cd_Fr.rf h
      · have hej := cd_b_ne.mp c30
        simp [sp_revoke, rD, rF, rS, rU, hDj, hSi, hclj, hcli, hej] at hr
        subst hr
        first | refine g_aload_n O 0 d_Mo_revoke_33 rfl rfl ?_ | refine g_aload_nq O 0 d_Mo_revoke_33 rfl rfl ?_
        refine g_iconst (v := 2) O d_Mo_revoke_34 (by decide) ?_
        refine g_callv (N := 0) (mc := 0) (ms := 0) (av := [_]) O (Or.inl ⟨_, _, cw_Mo_fail⟩) pl_Mo (ci := 6) (q := q_Mo) rfl hM.km ml_Mo_84 im_Mo_fail se_Mo_fail rfl d_Mo_revoke_35 rfl (Nat.le_of_ble_eq_true rfl) (Nat.le_of_ble_eq_true rfl) (Nat.le_of_ble_eq_true rfl) (Nat.le_of_ble_eq_true rfl) ?_
        refine ct_Mo_fail hM.km ?_
        change cd_Go _ _ _ _ _ _ _ _ _ _
        refine g_iret O d_Mo_revoke_38 (Nat.le_of_ble_eq_true rfl) (Nat.le_of_ble_eq_true rfl) ?_
        exact MC.fail (c := 2) (by decide) hM hL cd_Fr.rf h
    · have hn : isSl _ = false := (cd_nbn _).mp c15
      simp [sp_revoke, rD, rF, rS, rU, hn] at hr
      subst hr
      first | refine g_aload_n O 0 d_Mo_revoke_18 rfl rfl ?_ | refine g_aload_nq O 0 d_Mo_revoke_18 rfl rfl ?_
      refine g_iconst (v := 1) O d_Mo_revoke_19 (by decide) ?_
      refine g_callv (N := 0) (mc := 0) (ms := 0) (av := [_]) O (Or.inl ⟨_, _, cw_Mo_fail⟩) pl_Mo (ci := 6) (q := q_Mo) rfl hM.km ml_Mo_84 im_Mo_fail se_Mo_fail rfl d_Mo_revoke_20 rfl (Nat.le_of_ble_eq_true rfl) (Nat.le_of_ble_eq_true rfl) (Nat.le_of_ble_eq_true rfl) (Nat.le_of_ble_eq_true rfl) ?_
      refine ct_Mo_fail hM.km ?_
      change cd_Go _ _ _ _ _ _ _ _ _ _
      refine g_iret O d_Mo_revoke_23 (Nat.le_of_ble_eq_true rfl) (Nat.le_of_ble_eq_true rfl) ?_
      exact MC.fail (c := 1) (by decide) hM hL cd_Fr.rf h
set_option maxHeartbeats 4000000 in
set_option maxRecDepth 100000 in
theorem om_read {G : cd_Gl} {l : Launch} {w : cd_Wd} {Q : cd_Out → cd_Wd → Prop} {m : Nat} {B : Nat → Nat} {σ : cd_S} {g : Nat → Bool} (hM : RepM w m B σ g) (hL : Rel σ g) (hI : cd_Iv σ) {d s f : Int32} {r : cd_R} (hr : sp_read σ d s f = r) (h : MC w m B r Q) : cd_Ct G l y_Mo_read 3 0 0 [.ref m, .int d, .int s, .int f] w Q := by
  refine cd_ofW cw_Mo_read (by simp [Value.category, cat_rf]) (Nat.le_of_ble_eq_true rfl) fun C O => ?_
  change cd_Go G l C _ 0 0 w 0 [some (.ref m), some (.int d), some (.int s), some (.int f), none, none, none] []
  first | refine g_aload_n O 0 d_Mo_read_0 rfl rfl ?_ | refine g_aload_nq O 0 d_Mo_read_0 rfl rfl ?_
  refine g_iload_n O 1 d_Mo_read_1 rfl rfl ?_
  refine g_iload_n O 2 d_Mo_read_2 rfl rfl ?_
  refine g_iconst (v := 1) O d_Mo_read_3 (by decide) ?_
  refine g_callv (N := 2) (mc := 0) (ms := 0) (av := [_, _, _]) O (Or.inl ⟨_, _, cw_Mo_useFails⟩) pl_Mo (ci := 6) (q := q_Mo) rfl hM.km ml_Mo_111 im_Mo_useFails se_Mo_useFails rfl d_Mo_read_4 rfl (Nat.le_of_ble_eq_true rfl) (Nat.le_of_ble_eq_true rfl) (Nat.le_of_ble_eq_true rfl) (Nat.le_of_ble_eq_true rfl) ?_
  refine ct_Mo_useFails hM hL (Or.inl rfl) (fun e => ?_) (fun j i hjj ej hii ei hej => ?_) (fun j i hjj ej hii ei hej hs => ?_) (fun j i c hjj ej hii ei hej hs hc hxu => ?_) (fun j i c hjj ej hii ei hej hs hc hxu hal => ?_) (fun j i c hjj ej hii ei hej hs hc hxu hal => ?_)
  · simp [sp_read, rD, rF, rS, rU, e] at hr
    subst hr
    change cd_Go _ _ _ _ _ _ _ _ _ _
    refine g_istore O d_Mo_read_7 (Nat.le_of_ble_eq_true rfl) ?_
    refine g_iload O d_Mo_read_9 rfl ?_
    refine g_if_eq  O 21 d_Mo_read_11 (by decide) (fun c11 => ?_) (fun c11 => ?_)
    · exact absurd c11 (by decide)
    · first | refine g_aload_n O 0 d_Mo_read_14 rfl rfl ?_ | refine g_aload_nq O 0 d_Mo_read_14 rfl rfl ?_
      refine g_iload O d_Mo_read_15 rfl ?_
      refine g_callv (N := 0) (mc := 0) (ms := 0) (av := [_]) O (Or.inl ⟨_, _, cw_Mo_fail⟩) pl_Mo (ci := 6) (q := q_Mo) rfl hM.km ml_Mo_84 im_Mo_fail se_Mo_fail rfl d_Mo_read_17 rfl (Nat.le_of_ble_eq_true rfl) (Nat.le_of_ble_eq_true rfl) (Nat.le_of_ble_eq_true rfl) (Nat.le_of_ble_eq_true rfl) ?_
      refine ct_Mo_fail hM.km ?_
      change cd_Go _ _ _ _ _ _ _ _ _ _
      refine g_iret O d_Mo_read_20 (Nat.le_of_ble_eq_true rfl) (Nat.le_of_ble_eq_true rfl) ?_
      exact MC.fail (c := 1) (by decide) hM hL cd_Fr.rf h
  · subst ej ei
    have h6j : j < 6 := Nat.lt_of_lt_of_le hjj hM.D6
    have hclj : (nI j).toNatClampNeg = j := nI_clamp (by omega)
    have hcli : (nI i).toNatClampNeg = i := nI_clamp (by omega)
    have hDj : isD σ (nI j) = true := isD_nI hjj hM.D6
    have hSi : isSl (nI i) = true := isSl_nI hii
    simp [sp_read, rD, rF, rS, rU, hDj, hSi, hclj, hcli, hej] at hr
    subst hr
    change cd_Go _ _ _ _ _ _ _ _ _ _
    refine g_istore O d_Mo_read_7 (Nat.le_of_ble_eq_true rfl) ?_
    refine g_iload O d_Mo_read_9 rfl ?_
    refine g_if_eq  O 21 d_Mo_read_11 (by decide) (fun c11 => ?_) (fun c11 => ?_)
    · exact absurd c11 (by decide)
    · first | refine g_aload_n O 0 d_Mo_read_14 rfl rfl ?_ | refine g_aload_nq O 0 d_Mo_read_14 rfl rfl ?_
      refine g_iload O d_Mo_read_15 rfl ?_
      refine g_callv (N := 0) (mc := 0) (ms := 0) (av := [_]) O (Or.inl ⟨_, _, cw_Mo_fail⟩) pl_Mo (ci := 6) (q := q_Mo) rfl hM.km ml_Mo_84 im_Mo_fail se_Mo_fail rfl d_Mo_read_17 rfl (Nat.le_of_ble_eq_true rfl) (Nat.le_of_ble_eq_true rfl) (Nat.le_of_ble_eq_true rfl) (Nat.le_of_ble_eq_true rfl) ?_
      refine ct_Mo_fail hM.km ?_
      change cd_Go _ _ _ _ _ _ _ _ _ _
      refine g_iret O d_Mo_read_20 (Nat.le_of_ble_eq_true rfl) (Nat.le_of_ble_eq_true rfl) ?_
      exact MC.fail (c := 2) (by decide) hM hL cd_Fr.rf h
  · subst ej ei
    have h6j : j < 6 := Nat.lt_of_lt_of_le hjj hM.D6
    have hclj : (nI j).toNatClampNeg = j := nI_clamp (by omega)
    have hcli : (nI i).toNatClampNeg = i := nI_clamp (by omega)
    have hDj : isD σ (nI j) = true := isD_nI hjj hM.D6
    have hSi : isSl (nI i) = true := isSl_nI hii
    simp [sp_read, rD, rF, rS, rU, hDj, hSi, hclj, hcli, hej, hs] at hr
    subst hr
    change cd_Go _ _ _ _ _ _ _ _ _ _
    refine g_istore O d_Mo_read_7 (Nat.le_of_ble_eq_true rfl) ?_
    refine g_iload O d_Mo_read_9 rfl ?_
    refine g_if_eq  O 21 d_Mo_read_11 (by decide) (fun c11 => ?_) (fun c11 => ?_)
    · exact absurd c11 (by decide)
    · first | refine g_aload_n O 0 d_Mo_read_14 rfl rfl ?_ | refine g_aload_nq O 0 d_Mo_read_14 rfl rfl ?_
      refine g_iload O d_Mo_read_15 rfl ?_
      refine g_callv (N := 0) (mc := 0) (ms := 0) (av := [_]) O (Or.inl ⟨_, _, cw_Mo_fail⟩) pl_Mo (ci := 6) (q := q_Mo) rfl hM.km ml_Mo_84 im_Mo_fail se_Mo_fail rfl d_Mo_read_17 rfl (Nat.le_of_ble_eq_true rfl) (Nat.le_of_ble_eq_true rfl) (Nat.le_of_ble_eq_true rfl) (Nat.le_of_ble_eq_true rfl) ?_
      refine ct_Mo_fail hM.km ?_
      change cd_Go _ _ _ _ _ _ _ _ _ _
      refine g_iret O d_Mo_read_20 (Nat.le_of_ble_eq_true rfl) (Nat.le_of_ble_eq_true rfl) ?_
      exact MC.fail (c := 3) (by decide) hM hL cd_Fr.rf h
  · subst ej ei
    have h6j : j < 6 := Nat.lt_of_lt_of_le hjj hM.D6
    have hclj : (nI j).toNatClampNeg = j := nI_clamp (by omega)
    have hcli : (nI i).toNatClampNeg = i := nI_clamp (by omega)
    have hDj : isD σ (nI j) = true := isD_nI hjj hM.D6
    have hSi : isSl (nI i) = true := isSl_nI hii
    have hxu := Bool.or_eq_true_iff.mp hxu
    simp [sp_read, rD, rF, rS, rU, hDj, hSi, hclj, hcli, hej, hs, hxu] at hr
    subst hr
    change cd_Go _ _ _ _ _ _ _ _ _ _
    refine g_istore O d_Mo_read_7 (Nat.le_of_ble_eq_true rfl) ?_
    refine g_iload O d_Mo_read_9 rfl ?_
    refine g_if_eq  O 21 d_Mo_read_11 (by decide) (fun c11 => ?_) (fun c11 => ?_)
    · exact absurd c11 (by decide)
    · first | refine g_aload_n O 0 d_Mo_read_14 rfl rfl ?_ | refine g_aload_nq O 0 d_Mo_read_14 rfl rfl ?_
      refine g_iload O d_Mo_read_15 rfl ?_
      refine g_callv (N := 0) (mc := 0) (ms := 0) (av := [_]) O (Or.inl ⟨_, _, cw_Mo_fail⟩) pl_Mo (ci := 6) (q := q_Mo) rfl hM.km ml_Mo_84 im_Mo_fail se_Mo_fail rfl d_Mo_read_17 rfl (Nat.le_of_ble_eq_true rfl) (Nat.le_of_ble_eq_true rfl) (Nat.le_of_ble_eq_true rfl) (Nat.le_of_ble_eq_true rfl) ?_
      refine ct_Mo_fail hM.km ?_
      change cd_Go _ _ _ _ _ _ _ _ _ _
      refine g_iret O d_Mo_read_20 (Nat.le_of_ble_eq_true rfl) (Nat.le_of_ble_eq_true rfl) ?_
      exact MC.fail (c := 2) (by decide) hM hL cd_Fr.rf h
  · subst ej ei
    have h6j : j < 6 := Nat.lt_of_lt_of_le hjj hM.D6
    have hclj : (nI j).toNatClampNeg = j := nI_clamp (by omega)
    have hcli : (nI i).toNatClampNeg = i := nI_clamp (by omega)
    have hDj : isD σ (nI j) = true := isD_nI hjj hM.D6
    have hSi : isSl (nI i) = true := isSl_nI hii
    have hxu := Bool.or_eq_false_iff.mp hxu
    simp [sp_read, rD, rF, rS, rU, hDj, hSi, hclj, hcli, hej, hs, hxu, hal] at hr
    subst hr
    change cd_Go _ _ _ _ _ _ _ _ _ _
    refine g_istore O d_Mo_read_7 (Nat.le_of_ble_eq_true rfl) ?_
    refine g_iload O d_Mo_read_9 rfl ?_
    refine g_if_eq  O 21 d_Mo_read_11 (by decide) (fun c11 => ?_) (fun c11 => ?_)
    · exact absurd c11 (by decide)
    · first | refine g_aload_n O 0 d_Mo_read_14 rfl rfl ?_ | refine g_aload_nq O 0 d_Mo_read_14 rfl rfl ?_
      refine g_iload O d_Mo_read_15 rfl ?_
      refine g_callv (N := 0) (mc := 0) (ms := 0) (av := [_]) O (Or.inl ⟨_, _, cw_Mo_fail⟩) pl_Mo (ci := 6) (q := q_Mo) rfl hM.km ml_Mo_84 im_Mo_fail se_Mo_fail rfl d_Mo_read_17 rfl (Nat.le_of_ble_eq_true rfl) (Nat.le_of_ble_eq_true rfl) (Nat.le_of_ble_eq_true rfl) (Nat.le_of_ble_eq_true rfl) ?_
      refine ct_Mo_fail hM.km ?_
      change cd_Go _ _ _ _ _ _ _ _ _ _
      refine g_iret O d_Mo_read_20 (Nat.le_of_ble_eq_true rfl) (Nat.le_of_ble_eq_true rfl) ?_
      exact MC.fail (c := 4) (by decide) hM hL cd_Fr.rf h
  subst ej ei
  have h6j : j < 6 := Nat.lt_of_lt_of_le hjj hM.D6
  have hclj : (nI j).toNatClampNeg = j := nI_clamp (by omega)
  have hcli : (nI i).toNatClampNeg = i := nI_clamp (by omega)
  have hDj : isD σ (nI j) = true := isD_nI hjj hM.D6
  have hSi : isSl (nI i) = true := isSl_nI hii
  have hxu := Bool.or_eq_false_iff.mp hxu
  obtain ⟨l1, l2, l3⟩ := hI.lv hc hxu.1
  have hw := hM.hw hc
  have hC := hM.C40
  change cd_Go _ _ _ _ _ _ _ _ _ _
  refine g_istore O d_Mo_read_7 (Nat.le_of_ble_eq_true rfl) ?_
  refine g_iload O d_Mo_read_9 rfl ?_
  refine g_if_eq  O 21 d_Mo_read_11 (by decide) (fun c11 => ?_) (fun c11 => ?_)
  · first | refine g_aload_n O 0 d_Mo_read_21 rfl rfl ?_ | refine g_aload_nq O 0 d_Mo_read_21 rfl rfl ?_
    refine g_iload_n O 3 d_Mo_read_22 rfl rfl ?_
    refine g_iconst (v := 3) O d_Mo_read_23 (by decide) ?_
    refine g_callv (N := 0) (mc := 0) (ms := 0) (av := [_, _]) O (Or.inl ⟨_, _, cw_Mo_out⟩) pl_Mo (ci := 6) (q := q_Mo) rfl hM.km ml_Mo_66 im_Mo_out se_Mo_out rfl d_Mo_read_24 rfl (Nat.le_of_ble_eq_true rfl) (Nat.le_of_ble_eq_true rfl) (Nat.le_of_ble_eq_true rfl) (Nat.le_of_ble_eq_true rfl) ?_
    refine ct_Mo_out ?_
    change cd_Go _ _ _ _ _ _ _ _ _ _
    refine g_if_eq  O 36 d_Mo_read_27 (by decide) (fun c27 => ?_) (fun c27 => ?_)
    · have hFi : isFi _ = true := (cd_nb _).mp c27
      obtain ⟨q, hq, rfl⟩ := isFi_of hFi
      have hclq : (nI q).toNatClampNeg = q := nI_clamp (by omega)
      first | refine g_aload_n O 0 d_Mo_read_36 rfl rfl ?_ | refine g_aload_nq O 0 d_Mo_read_36 rfl rfl ?_
      refine g_getS O c_Mo 7 (by decide) rfl hM.km lk_Mo_33 d_Mo_read_37 (hM.a 7 (by omega) (by omega)).1 ?_
      refine g_iload_n O 1 d_Mo_read_40 rfl rfl ?_
      refine g_bipush (v := 8) O d_Mo_read_41 (by decide) ?_
      refine g_imul O d_Mo_read_43 ?_
      refine g_iload_n O 2 d_Mo_read_44 rfl rfl ?_
      refine g_iadd O d_Mo_read_45 ?_
      rw [m8, nI_add]
      refine g_ialdV O 0 rfl rfl (hM.a 7 (by omega) (by omega)).2.1 (by (try simp only [ln_wI]); rw [(hM.a 7 (by omega) (by omega)).2.2]; exact ix_in (n := 48) (show j * 8 + i < 48 from by omega) (by omega)) d_Mo_read_46 (Eq.trans (congrArg (cd_I _ (1000 + 0) (B 7)) (cl_nI (j := j * 8 + i) (by omega))) (((hM.S h6j hii).trans (congrArg cd_l hs) : _ = nI c))) ?_
      refine g_istore O d_Mo_read_47 (Nat.le_of_ble_eq_true rfl) ?_
      first | refine g_aload_n O 0 d_Mo_read_49 rfl rfl ?_ | refine g_aload_nq O 0 d_Mo_read_49 rfl rfl ?_
      refine g_getS O c_Mo 8 (by decide) rfl hM.km lk_Mo_36 d_Mo_read_50 (hM.a 8 (by omega) (by omega)).1 ?_
      refine g_iload O d_Mo_read_53 rfl ?_
      refine g_ialdV O 0 rfl rfl (hM.a 8 (by omega) (by omega)).2.1 (by (try simp only [ln_wI]); rw [(hM.a 8 (by omega) (by omega)).2.2]; exact ix_in (n := 40) (show c < 40 from by omega) (by omega)) d_Mo_read_55 (Eq.trans (congrArg (cd_I _ (1000 + 0) (B 8)) (cl_nI (j := c) (by omega))) ((hM.K hc).1)) ?_
      refine g_iconst (v := 3) O d_Mo_read_56 (by decide) ?_
      refine g_imul O d_Mo_read_57 ?_
      refine g_iload_n O 3 d_Mo_read_58 rfl rfl ?_
      refine g_iadd O d_Mo_read_59 ?_
      rw [m3, nI_add]
      refine g_istore O d_Mo_read_60 (Nat.le_of_ble_eq_true rfl) ?_
      first | refine g_aload_n O 0 d_Mo_read_62 rfl rfl ?_ | refine g_aload_nq O 0 d_Mo_read_62 rfl rfl ?_
      refine g_getS O c_Mo 5 (by decide) rfl hM.km lk_Mo_26 d_Mo_read_63 (hM.a 5 (by omega) (by omega)).1 ?_
      refine g_iload O d_Mo_read_66 rfl ?_
      refine g_ialdV O 0 rfl rfl (hM.a 5 (by omega) (by omega)).2.1 (by (try simp only [ln_wI]); rw [(hM.a 5 (by omega) (by omega)).2.2]; exact ix_in (n := 216) (show (kH σ c * 12 + kT σ c) * 3 + q < 216 from by omega) (by omega)) d_Mo_read_68 (Eq.trans (congrArg (cd_I _ (1000 + 0) (B 5)) (cl_nI (j := (kH σ c * 12 + kT σ c) * 3 + q) (by omega))) ((hM.F hw.1 hw.2.2.1 hq).1)) ?_
      refine g_if_eq  O 79 d_Mo_read_69 (by decide) (fun c69 => ?_) (fun c69 => ?_)
      · have hnm := fS_0.mp c69
        have e1 := fV_0 c69
        simp [sp_read, rD, rF, rS, rU, hDj, hSi, hclj, hcli, hej, hs, hxu, hal, hFi, hclq, hnm] at hr
        subst hr
        first | refine g_aload_n O 0 d_Mo_read_79 rfl rfl ?_ | refine g_aload_nq O 0 d_Mo_read_79 rfl rfl ?_
        refine g_iload O d_Mo_read_80 rfl ?_
        refine g_callv (N := 0) (mc := 0) (ms := 0) (av := [_]) O (Or.inl ⟨_, _, cw_Mo_use⟩) pl_Mo (ci := 6) (q := q_Mo) rfl hM.km ml_Mo_115 im_Mo_use se_Mo_use rfl d_Mo_read_82 rfl (Nat.le_of_ble_eq_true rfl) (Nat.le_of_ble_eq_true rfl) (Nat.le_of_ble_eq_true rfl) (Nat.le_of_ble_eq_true rfl) ?_
        refine ct_Mo_use hM hc (fun w1 hM1 hF1 => ?_)
        have hQ : cd_I w1 1000 (B 6) ((kH σ c * 12 + kT σ c) * 3 + q) = (sF σ (kH σ c) (kT σ c) q).1 := by rw [(hM1.F hw.1 hw.2.2.1 hq).2, (spend_eqv σ c).2.2.2.1, e1]
        change cd_Go _ _ _ _ _ _ _ _ _ _
        first | refine g_aload_n O 0 d_Mo_read_85 rfl rfl ?_ | refine g_aload_nq O 0 d_Mo_read_85 rfl rfl ?_
        first | refine g_aload_n O 0 d_Mo_read_86 rfl rfl ?_ | refine g_aload_nq O 0 d_Mo_read_86 rfl rfl ?_
        refine g_getS O c_Mo 6 (by decide) rfl hM1.km lk_Mo_30 d_Mo_read_87 (hM1.a 6 (by omega) (by omega)).1 ?_
        refine g_iload O d_Mo_read_90 rfl ?_
        refine g_ialdV O 0 rfl rfl (hM1.a 6 (by omega) (by omega)).2.1 (by (try simp only [ln_wI]); rw [(hM1.a 6 (by omega) (by omega)).2.2]; exact ix_in (n := 216) (show (kH σ c * 12 + kT σ c) * 3 + q < 216 from by omega) (by omega)) d_Mo_read_92 (Eq.trans (congrArg (cd_I _ (1000 + 0) (B 6)) (cl_nI (j := (kH σ c * 12 + kT σ c) * 3 + q) (by omega))) (hQ)) ?_
        refine g_callv (N := 0) (mc := 0) (ms := 0) (av := [_]) O (Or.inl ⟨_, _, cw_Mo_fine⟩) pl_Mo (ci := 6) (q := q_Mo) rfl hM1.km ml_Mo_87 im_Mo_fine se_Mo_fine rfl d_Mo_read_93 rfl (Nat.le_of_ble_eq_true rfl) (Nat.le_of_ble_eq_true rfl) (Nat.le_of_ble_eq_true rfl) (Nat.le_of_ble_eq_true rfl) ?_
        refine ct_Mo_fine hM1.km ?_
        change cd_Go _ _ _ _ _ _ _ _ _ _
        refine g_iret O d_Mo_read_96 (Nat.le_of_ble_eq_true rfl) (Nat.le_of_ble_eq_true rfl) ?_
        exact MC.fine hM1 ((spend_eqv σ c).rel hL) (fr_10 hF1) h
      · have hnm : isNm (sF σ (kH σ c) (kT σ c) q) = false := Bool.eq_false_iff.mpr fun z => c69 (fS_0.mpr z)
        simp [sp_read, rD, rF, rS, rU, hDj, hSi, hclj, hcli, hej, hs, hxu, hal, hFi, hclq, hnm] at hr
        subst hr
        first | refine g_aload_n O 0 d_Mo_read_72 rfl rfl ?_ | refine g_aload_nq O 0 d_Mo_read_72 rfl rfl ?_
        refine g_bipush (v := 6) O d_Mo_read_73 (by decide) ?_
        refine g_callv (N := 0) (mc := 0) (ms := 0) (av := [_]) O (Or.inl ⟨_, _, cw_Mo_fail⟩) pl_Mo (ci := 6) (q := q_Mo) rfl hM.km ml_Mo_84 im_Mo_fail se_Mo_fail rfl d_Mo_read_75 rfl (Nat.le_of_ble_eq_true rfl) (Nat.le_of_ble_eq_true rfl) (Nat.le_of_ble_eq_true rfl) (Nat.le_of_ble_eq_true rfl) ?_
        refine ct_Mo_fail hM.km ?_
        change cd_Go _ _ _ _ _ _ _ _ _ _
        refine g_iret O d_Mo_read_78 (Nat.le_of_ble_eq_true rfl) (Nat.le_of_ble_eq_true rfl) ?_
        exact MC.fail (c := 6) (by decide) hM hL cd_Fr.rf h
    · have hFi : isFi _ = false := (cd_nbn _).mp c27
      simp [sp_read, rD, rF, rS, rU, hDj, hSi, hclj, hcli, hej, hs, hxu, hal, hFi] at hr
      subst hr
      first | refine g_aload_n O 0 d_Mo_read_30 rfl rfl ?_ | refine g_aload_nq O 0 d_Mo_read_30 rfl rfl ?_
      refine g_iconst (v := 5) O d_Mo_read_31 (by decide) ?_
      refine g_callv (N := 0) (mc := 0) (ms := 0) (av := [_]) O (Or.inl ⟨_, _, cw_Mo_fail⟩) pl_Mo (ci := 6) (q := q_Mo) rfl hM.km ml_Mo_84 im_Mo_fail se_Mo_fail rfl d_Mo_read_32 rfl (Nat.le_of_ble_eq_true rfl) (Nat.le_of_ble_eq_true rfl) (Nat.le_of_ble_eq_true rfl) (Nat.le_of_ble_eq_true rfl) ?_
      refine ct_Mo_fail hM.km ?_
      change cd_Go _ _ _ _ _ _ _ _ _ _
      refine g_iret O d_Mo_read_35 (Nat.le_of_ble_eq_true rfl) (Nat.le_of_ble_eq_true rfl) ?_
      exact MC.fail (c := 5) (by decide) hM hL cd_Fr.rf h
  · exact absurd rfl c11
set_option maxHeartbeats 4000000 in
set_option maxRecDepth 100000 in
theorem om_write {G : cd_Gl} {l : Launch} {w : cd_Wd} {Q : cd_Out → cd_Wd → Prop} {m : Nat} {B : Nat → Nat} {σ : cd_S} {g : Nat → Bool} (hM : RepM w m B σ g) (hL : Rel σ g) (hI : cd_Iv σ) {d s f v : Int32} {r : cd_R} (hr : sp_write σ d s f v = r) (h : MC w m B r Q) : cd_Ct G l y_Mo_write 3 0 0 [.ref m, .int d, .int s, .int f, .int v] w Q := by
  refine cd_ofW cw_Mo_write (by simp [Value.category, cat_rf]) (Nat.le_of_ble_eq_true rfl) fun C O => ?_
  change cd_Go G l C _ 0 0 w 0 [some (.ref m), some (.int d), some (.int s), some (.int f), some (.int v), none, none] []
  first | refine g_aload_n O 0 d_Mo_write_0 rfl rfl ?_ | refine g_aload_nq O 0 d_Mo_write_0 rfl rfl ?_
  refine g_iload_n O 1 d_Mo_write_1 rfl rfl ?_
  refine g_iload_n O 2 d_Mo_write_2 rfl rfl ?_
  refine g_iconst (v := 2) O d_Mo_write_3 (by decide) ?_
  refine g_callv (N := 2) (mc := 0) (ms := 0) (av := [_, _, _]) O (Or.inl ⟨_, _, cw_Mo_useFails⟩) pl_Mo (ci := 6) (q := q_Mo) rfl hM.km ml_Mo_111 im_Mo_useFails se_Mo_useFails rfl d_Mo_write_4 rfl (Nat.le_of_ble_eq_true rfl) (Nat.le_of_ble_eq_true rfl) (Nat.le_of_ble_eq_true rfl) (Nat.le_of_ble_eq_true rfl) ?_
  refine ct_Mo_useFails hM hL (Or.inr (Or.inl rfl)) (fun e => ?_) (fun j i hjj ej hii ei hej => ?_) (fun j i hjj ej hii ei hej hs => ?_) (fun j i c hjj ej hii ei hej hs hc hxu => ?_) (fun j i c hjj ej hii ei hej hs hc hxu hal => ?_) (fun j i c hjj ej hii ei hej hs hc hxu hal => ?_)
  · simp [sp_write, rD, rF, rS, rU, e] at hr
    subst hr
    change cd_Go _ _ _ _ _ _ _ _ _ _
    refine g_istore O d_Mo_write_7 (Nat.le_of_ble_eq_true rfl) ?_
    refine g_iload O d_Mo_write_9 rfl ?_
    refine g_if_eq  O 21 d_Mo_write_11 (by decide) (fun c11 => ?_) (fun c11 => ?_)
    · exact absurd c11 (by decide)
    · first | refine g_aload_n O 0 d_Mo_write_14 rfl rfl ?_ | refine g_aload_nq O 0 d_Mo_write_14 rfl rfl ?_
      refine g_iload O d_Mo_write_15 rfl ?_
      refine g_callv (N := 0) (mc := 0) (ms := 0) (av := [_]) O (Or.inl ⟨_, _, cw_Mo_fail⟩) pl_Mo (ci := 6) (q := q_Mo) rfl hM.km ml_Mo_84 im_Mo_fail se_Mo_fail rfl d_Mo_write_17 rfl (Nat.le_of_ble_eq_true rfl) (Nat.le_of_ble_eq_true rfl) (Nat.le_of_ble_eq_true rfl) (Nat.le_of_ble_eq_true rfl) ?_
      refine ct_Mo_fail hM.km ?_
      change cd_Go _ _ _ _ _ _ _ _ _ _
      refine g_iret O d_Mo_write_20 (Nat.le_of_ble_eq_true rfl) (Nat.le_of_ble_eq_true rfl) ?_
      exact MC.fail (c := 1) (by decide) hM hL cd_Fr.rf h
  · subst ej ei
    have h6j : j < 6 := Nat.lt_of_lt_of_le hjj hM.D6
    have hclj : (nI j).toNatClampNeg = j := nI_clamp (by omega)
    have hcli : (nI i).toNatClampNeg = i := nI_clamp (by omega)
    have hDj : isD σ (nI j) = true := isD_nI hjj hM.D6
    have hSi : isSl (nI i) = true := isSl_nI hii
    simp [sp_write, rD, rF, rS, rU, hDj, hSi, hclj, hcli, hej] at hr
    subst hr
    change cd_Go _ _ _ _ _ _ _ _ _ _
    refine g_istore O d_Mo_write_7 (Nat.le_of_ble_eq_true rfl) ?_
    refine g_iload O d_Mo_write_9 rfl ?_
    refine g_if_eq  O 21 d_Mo_write_11 (by decide) (fun c11 => ?_) (fun c11 => ?_)
    · exact absurd c11 (by decide)
    · first | refine g_aload_n O 0 d_Mo_write_14 rfl rfl ?_ | refine g_aload_nq O 0 d_Mo_write_14 rfl rfl ?_
      refine g_iload O d_Mo_write_15 rfl ?_
      refine g_callv (N := 0) (mc := 0) (ms := 0) (av := [_]) O (Or.inl ⟨_, _, cw_Mo_fail⟩) pl_Mo (ci := 6) (q := q_Mo) rfl hM.km ml_Mo_84 im_Mo_fail se_Mo_fail rfl d_Mo_write_17 rfl (Nat.le_of_ble_eq_true rfl) (Nat.le_of_ble_eq_true rfl) (Nat.le_of_ble_eq_true rfl) (Nat.le_of_ble_eq_true rfl) ?_
      refine ct_Mo_fail hM.km ?_
      change cd_Go _ _ _ _ _ _ _ _ _ _
      refine g_iret O d_Mo_write_20 (Nat.le_of_ble_eq_true rfl) (Nat.le_of_ble_eq_true rfl) ?_
      exact MC.fail (c := 2) (by decide) hM hL cd_Fr.rf h
  · subst ej ei
    have h6j : j < 6 := Nat.lt_of_lt_of_le hjj hM.D6
    have hclj : (nI j).toNatClampNeg = j := nI_clamp (by omega)
    have hcli : (nI i).toNatClampNeg = i := nI_clamp (by omega)
    have hDj : isD σ (nI j) = true := isD_nI hjj hM.D6
    have hSi : isSl (nI i) = true := isSl_nI hii
    simp [sp_write, rD, rF, rS, rU, hDj, hSi, hclj, hcli, hej, hs] at hr
    subst hr
    change cd_Go _ _ _ _ _ _ _ _ _ _
    refine g_istore O d_Mo_write_7 (Nat.le_of_ble_eq_true rfl) ?_
    refine g_iload O d_Mo_write_9 rfl ?_
    refine g_if_eq  O 21 d_Mo_write_11 (by decide) (fun c11 => ?_) (fun c11 => ?_)
    · exact absurd c11 (by decide)
    · first | refine g_aload_n O 0 d_Mo_write_14 rfl rfl ?_ | refine g_aload_nq O 0 d_Mo_write_14 rfl rfl ?_
      refine g_iload O d_Mo_write_15 rfl ?_
      refine g_callv (N := 0) (mc := 0) (ms := 0) (av := [_]) O (Or.inl ⟨_, _, cw_Mo_fail⟩) pl_Mo (ci := 6) (q := q_Mo) rfl hM.km ml_Mo_84 im_Mo_fail se_Mo_fail rfl d_Mo_write_17 rfl (Nat.le_of_ble_eq_true rfl) (Nat.le_of_ble_eq_true rfl) (Nat.le_of_ble_eq_true rfl) (Nat.le_of_ble_eq_true rfl) ?_
      refine ct_Mo_fail hM.km ?_
      change cd_Go _ _ _ _ _ _ _ _ _ _
      refine g_iret O d_Mo_write_20 (Nat.le_of_ble_eq_true rfl) (Nat.le_of_ble_eq_true rfl) ?_
      exact MC.fail (c := 3) (by decide) hM hL cd_Fr.rf h
  · subst ej ei
    have h6j : j < 6 := Nat.lt_of_lt_of_le hjj hM.D6
    have hclj : (nI j).toNatClampNeg = j := nI_clamp (by omega)
    have hcli : (nI i).toNatClampNeg = i := nI_clamp (by omega)
    have hDj : isD σ (nI j) = true := isD_nI hjj hM.D6
    have hSi : isSl (nI i) = true := isSl_nI hii
    have hxu := Bool.or_eq_true_iff.mp hxu
    simp [sp_write, rD, rF, rS, rU, hDj, hSi, hclj, hcli, hej, hs, hxu] at hr
    subst hr
    change cd_Go _ _ _ _ _ _ _ _ _ _
    refine g_istore O d_Mo_write_7 (Nat.le_of_ble_eq_true rfl) ?_
    refine g_iload O d_Mo_write_9 rfl ?_
    refine g_if_eq  O 21 d_Mo_write_11 (by decide) (fun c11 => ?_) (fun c11 => ?_)
    · exact absurd c11 (by decide)
    · first | refine g_aload_n O 0 d_Mo_write_14 rfl rfl ?_ | refine g_aload_nq O 0 d_Mo_write_14 rfl rfl ?_
      refine g_iload O d_Mo_write_15 rfl ?_
      refine g_callv (N := 0) (mc := 0) (ms := 0) (av := [_]) O (Or.inl ⟨_, _, cw_Mo_fail⟩) pl_Mo (ci := 6) (q := q_Mo) rfl hM.km ml_Mo_84 im_Mo_fail se_Mo_fail rfl d_Mo_write_17 rfl (Nat.le_of_ble_eq_true rfl) (Nat.le_of_ble_eq_true rfl) (Nat.le_of_ble_eq_true rfl) (Nat.le_of_ble_eq_true rfl) ?_
      refine ct_Mo_fail hM.km ?_
      change cd_Go _ _ _ _ _ _ _ _ _ _
      refine g_iret O d_Mo_write_20 (Nat.le_of_ble_eq_true rfl) (Nat.le_of_ble_eq_true rfl) ?_
      exact MC.fail (c := 2) (by decide) hM hL cd_Fr.rf h
  · subst ej ei
    have h6j : j < 6 := Nat.lt_of_lt_of_le hjj hM.D6
    have hclj : (nI j).toNatClampNeg = j := nI_clamp (by omega)
    have hcli : (nI i).toNatClampNeg = i := nI_clamp (by omega)
    have hDj : isD σ (nI j) = true := isD_nI hjj hM.D6
    have hSi : isSl (nI i) = true := isSl_nI hii
    have hxu := Bool.or_eq_false_iff.mp hxu
    simp [sp_write, rD, rF, rS, rU, hDj, hSi, hclj, hcli, hej, hs, hxu, hal] at hr
    subst hr
    change cd_Go _ _ _ _ _ _ _ _ _ _
    refine g_istore O d_Mo_write_7 (Nat.le_of_ble_eq_true rfl) ?_
    refine g_iload O d_Mo_write_9 rfl ?_
    refine g_if_eq  O 21 d_Mo_write_11 (by decide) (fun c11 => ?_) (fun c11 => ?_)
    · exact absurd c11 (by decide)
    · first | refine g_aload_n O 0 d_Mo_write_14 rfl rfl ?_ | refine g_aload_nq O 0 d_Mo_write_14 rfl rfl ?_
      refine g_iload O d_Mo_write_15 rfl ?_
      refine g_callv (N := 0) (mc := 0) (ms := 0) (av := [_]) O (Or.inl ⟨_, _, cw_Mo_fail⟩) pl_Mo (ci := 6) (q := q_Mo) rfl hM.km ml_Mo_84 im_Mo_fail se_Mo_fail rfl d_Mo_write_17 rfl (Nat.le_of_ble_eq_true rfl) (Nat.le_of_ble_eq_true rfl) (Nat.le_of_ble_eq_true rfl) (Nat.le_of_ble_eq_true rfl) ?_
      refine ct_Mo_fail hM.km ?_
      change cd_Go _ _ _ _ _ _ _ _ _ _
      refine g_iret O d_Mo_write_20 (Nat.le_of_ble_eq_true rfl) (Nat.le_of_ble_eq_true rfl) ?_
      exact MC.fail (c := 4) (by decide) hM hL cd_Fr.rf h
  subst ej ei
  have h6j : j < 6 := Nat.lt_of_lt_of_le hjj hM.D6
  have hclj : (nI j).toNatClampNeg = j := nI_clamp (by omega)
  have hcli : (nI i).toNatClampNeg = i := nI_clamp (by omega)
  have hDj : isD σ (nI j) = true := isD_nI hjj hM.D6
  have hSi : isSl (nI i) = true := isSl_nI hii
  have hxu := Bool.or_eq_false_iff.mp hxu
  obtain ⟨l1, l2, l3⟩ := hI.lv hc hxu.1
  have hw := hM.hw hc
  have hC := hM.C40
  change cd_Go _ _ _ _ _ _ _ _ _ _
  refine g_istore O d_Mo_write_7 (Nat.le_of_ble_eq_true rfl) ?_
  refine g_iload O d_Mo_write_9 rfl ?_
  refine g_if_eq  O 21 d_Mo_write_11 (by decide) (fun c11 => ?_) (fun c11 => ?_)
  · first | refine g_aload_n O 0 d_Mo_write_21 rfl rfl ?_ | refine g_aload_nq O 0 d_Mo_write_21 rfl rfl ?_
    refine g_iload_n O 3 d_Mo_write_22 rfl rfl ?_
    refine g_iconst (v := 3) O d_Mo_write_23 (by decide) ?_
    refine g_callv (N := 0) (mc := 0) (ms := 0) (av := [_, _]) O (Or.inl ⟨_, _, cw_Mo_out⟩) pl_Mo (ci := 6) (q := q_Mo) rfl hM.km ml_Mo_66 im_Mo_out se_Mo_out rfl d_Mo_write_24 rfl (Nat.le_of_ble_eq_true rfl) (Nat.le_of_ble_eq_true rfl) (Nat.le_of_ble_eq_true rfl) (Nat.le_of_ble_eq_true rfl) ?_
    refine ct_Mo_out ?_
    change cd_Go _ _ _ _ _ _ _ _ _ _
    refine g_if_eq  O 36 d_Mo_write_27 (by decide) (fun c27 => ?_) (fun c27 => ?_)
    · have hFi : isFi _ = true := (cd_nb _).mp c27
      obtain ⟨q, hq, rfl⟩ := isFi_of hFi
      have hclq : (nI q).toNatClampNeg = q := nI_clamp (by omega)
      first | refine g_aload_n O 0 d_Mo_write_36 rfl rfl ?_ | refine g_aload_nq O 0 d_Mo_write_36 rfl rfl ?_
      refine g_getS O c_Mo 7 (by decide) rfl hM.km lk_Mo_33 d_Mo_write_37 (hM.a 7 (by omega) (by omega)).1 ?_
      refine g_iload_n O 1 d_Mo_write_40 rfl rfl ?_
      refine g_bipush (v := 8) O d_Mo_write_41 (by decide) ?_
      refine g_imul O d_Mo_write_43 ?_
      refine g_iload_n O 2 d_Mo_write_44 rfl rfl ?_
      refine g_iadd O d_Mo_write_45 ?_
      rw [m8, nI_add]
      refine g_ialdV O 0 rfl rfl (hM.a 7 (by omega) (by omega)).2.1 (by (try simp only [ln_wI]); rw [(hM.a 7 (by omega) (by omega)).2.2]; exact ix_in (n := 48) (show j * 8 + i < 48 from by omega) (by omega)) d_Mo_write_46 (Eq.trans (congrArg (cd_I _ (1000 + 0) (B 7)) (cl_nI (j := j * 8 + i) (by omega))) (((hM.S h6j hii).trans (congrArg cd_l hs) : _ = nI c))) ?_
      refine g_istore O d_Mo_write_47 (Nat.le_of_ble_eq_true rfl) ?_
      first | refine g_aload_n O 0 d_Mo_write_49 rfl rfl ?_ | refine g_aload_nq O 0 d_Mo_write_49 rfl rfl ?_
      first | refine g_aload_n O 0 d_Mo_write_50 rfl rfl ?_ | refine g_aload_nq O 0 d_Mo_write_50 rfl rfl ?_
      refine g_getS O c_Mo 8 (by decide) rfl hM.km lk_Mo_36 d_Mo_write_51 (hM.a 8 (by omega) (by omega)).1 ?_
      refine g_iload O d_Mo_write_54 rfl ?_
      refine g_ialdV O 0 rfl rfl (hM.a 8 (by omega) (by omega)).2.1 (by (try simp only [ln_wI]); rw [(hM.a 8 (by omega) (by omega)).2.2]; exact ix_in (n := 40) (show c < 40 from by omega) (by omega)) d_Mo_write_56 (Eq.trans (congrArg (cd_I _ (1000 + 0) (B 8)) (cl_nI (j := c) (by omega))) ((hM.K hc).1)) ?_
      refine g_iconst (v := 3) O d_Mo_write_57 (by decide) ?_
      refine g_imul O d_Mo_write_58 ?_
      refine g_iload_n O 3 d_Mo_write_59 rfl rfl ?_
      refine g_iadd O d_Mo_write_60 ?_
      rw [m3, nI_add]
      simp [sp_write, rD, rF, rS, rU, hDj, hSi, hclj, hcli, hej, hs, hxu, hal, hFi, hclq, wrF, spend] at hr
      subst hr
      refine g_iconst (v := 0) O d_Mo_write_61 (by decide) ?_
      refine g_iload O d_Mo_write_62 rfl ?_
      refine g_callv (N := 0) (mc := 0) (ms := 0) (av := [_, _, _]) O (Or.inl ⟨_, _, cw_Mo_put⟩) pl_Mo (ci := 6) (q := q_Mo) rfl hM.km ml_Mo_90 im_Mo_put se_Mo_put rfl d_Mo_write_64 rfl (Nat.le_of_ble_eq_true rfl) (Nat.le_of_ble_eq_true rfl) (Nat.le_of_ble_eq_true rfl) (Nat.le_of_ble_eq_true rfl) ?_
      refine ct_Mo_put (t := (v, none, none)) hM hw.1 hw.2.2.1 hq rfl rfl rfl (fun _ z => by cases z) (fun _ z => by cases z) (fun w1 hM1 hF1 => ?_)
      change cd_Go _ _ _ _ _ _ _ _ _ _
      first | refine g_aload_n O 0 d_Mo_write_67 rfl rfl ?_ | refine g_aload_nq O 0 d_Mo_write_67 rfl rfl ?_
      refine g_iload O d_Mo_write_68 rfl ?_
      refine g_callv (N := 0) (mc := 0) (ms := 0) (av := [_]) O (Or.inl ⟨_, _, cw_Mo_use⟩) pl_Mo (ci := 6) (q := q_Mo) rfl hM1.km ml_Mo_115 im_Mo_use se_Mo_use rfl d_Mo_write_70 rfl (Nat.le_of_ble_eq_true rfl) (Nat.le_of_ble_eq_true rfl) (Nat.le_of_ble_eq_true rfl) (Nat.le_of_ble_eq_true rfl) ?_
      refine ct_Mo_use (c := c) hM1 hc (fun w2 hM2 hF2 => ?_)
      have hc2 : c < sC (spend (setF σ (kH σ c) (kT σ c) q (v, none, none)) c) := by rw [(spend_eqv (setF σ (kH σ c) (kT σ c) q (v, none, none)) c).1.2]; exact hc
      change cd_Go _ _ _ _ _ _ _ _ _ _
      first | refine g_aload_n O 0 d_Mo_write_73 rfl rfl ?_ | refine g_aload_nq O 0 d_Mo_write_73 rfl rfl ?_
      first | refine g_aload_n O 0 d_Mo_write_74 rfl rfl ?_ | refine g_aload_nq O 0 d_Mo_write_74 rfl rfl ?_
      refine g_getS O c_Mo 10 (by decide) rfl hM2.km lk_Mo_42 d_Mo_write_75 (hM2.a 10 (by omega) (by omega)).1 ?_
      refine g_iload O d_Mo_write_78 rfl ?_
      refine g_ialdV O 0 rfl rfl (hM2.a 10 (by omega) (by omega)).2.1 (by (try simp only [ln_wI]); rw [(hM2.a 10 (by omega) (by omega)).2.2]; exact ix_in (n := 40) (show c < 40 from by omega) (by omega)) d_Mo_write_80 (Eq.trans (congrArg (cd_I _ (1000 + 0) (B 10)) (cl_nI (j := c) (by omega))) ((hM2.K hc2).2.2.1)) ?_
      refine g_callv (N := 0) (mc := 0) (ms := 0) (av := [_]) O (Or.inl ⟨_, _, cw_Mo_fine⟩) pl_Mo (ci := 6) (q := q_Mo) rfl hM2.km ml_Mo_87 im_Mo_fine se_Mo_fine rfl d_Mo_write_81 rfl (Nat.le_of_ble_eq_true rfl) (Nat.le_of_ble_eq_true rfl) (Nat.le_of_ble_eq_true rfl) (Nat.le_of_ble_eq_true rfl) ?_
      refine ct_Mo_fine hM2.km ?_
      change cd_Go _ _ _ _ _ _ _ _ _ _
      refine g_iret O d_Mo_write_84 (Nat.le_of_ble_eq_true rfl) (Nat.le_of_ble_eq_true rfl) ?_
      exact MC.fine hM2 ((spend_eqv _ c).rel (hL.cg rfl (fun _ => rfl) (fun _ => rfl) (fun _ => rfl) (fun _ => rfl))) ((fr_5 hF1).tr (fr_10 hF2)) h
    · have hFi : isFi _ = false := (cd_nbn _).mp c27
      simp [sp_write, rD, rF, rS, rU, hDj, hSi, hclj, hcli, hej, hs, hxu, hal, hFi] at hr
      subst hr
      first | refine g_aload_n O 0 d_Mo_write_30 rfl rfl ?_ | refine g_aload_nq O 0 d_Mo_write_30 rfl rfl ?_
      refine g_iconst (v := 5) O d_Mo_write_31 (by decide) ?_
      refine g_callv (N := 0) (mc := 0) (ms := 0) (av := [_]) O (Or.inl ⟨_, _, cw_Mo_fail⟩) pl_Mo (ci := 6) (q := q_Mo) rfl hM.km ml_Mo_84 im_Mo_fail se_Mo_fail rfl d_Mo_write_32 rfl (Nat.le_of_ble_eq_true rfl) (Nat.le_of_ble_eq_true rfl) (Nat.le_of_ble_eq_true rfl) (Nat.le_of_ble_eq_true rfl) ?_
      refine ct_Mo_fail hM.km ?_
      change cd_Go _ _ _ _ _ _ _ _ _ _
      refine g_iret O d_Mo_write_35 (Nat.le_of_ble_eq_true rfl) (Nat.le_of_ble_eq_true rfl) ?_
      exact MC.fail (c := 5) (by decide) hM hL cd_Fr.rf h
  · exact absurd rfl c11
set_option maxHeartbeats 4000000 in
set_option maxRecDepth 100000 in
theorem om_take {G : cd_Gl} {l : Launch} {w : cd_Wd} {Q : cd_Out → cd_Wd → Prop} {m : Nat} {B : Nat → Nat} {σ : cd_S} {g : Nat → Bool} (hM : RepM w m B σ g) (hL : Rel σ g) (hI : cd_Iv σ) {d s f t' : Int32} {r : cd_R} (hr : sp_take σ d s f t' = r) (h : MC w m B r Q) : cd_Ct G l y_Mo_take 3 0 0 [.ref m, .int d, .int s, .int f, .int t'] w Q := by
  refine cd_ofW cw_Mo_take (by simp [Value.category, cat_rf]) (Nat.le_of_ble_eq_true rfl) fun C O => ?_
  change cd_Go G l C _ 0 0 w 0 [some (.ref m), some (.int d), some (.int s), some (.int f), some (.int t'), none, none, none, none] []
  first | refine g_aload_n O 0 d_Mo_take_0 rfl rfl ?_ | refine g_aload_nq O 0 d_Mo_take_0 rfl rfl ?_
  refine g_iload_n O 1 d_Mo_take_1 rfl rfl ?_
  refine g_iload_n O 2 d_Mo_take_2 rfl rfl ?_
  refine g_bipush (v := 8) O d_Mo_take_3 (by decide) ?_
  refine g_callv (N := 2) (mc := 0) (ms := 0) (av := [_, _, _]) O (Or.inl ⟨_, _, cw_Mo_useFails⟩) pl_Mo (ci := 6) (q := q_Mo) rfl hM.km ml_Mo_111 im_Mo_useFails se_Mo_useFails rfl d_Mo_take_5 rfl (Nat.le_of_ble_eq_true rfl) (Nat.le_of_ble_eq_true rfl) (Nat.le_of_ble_eq_true rfl) (Nat.le_of_ble_eq_true rfl) ?_
  refine ct_Mo_useFails hM hL (Or.inr (Or.inr (Or.inr (Or.inl rfl)))) (fun e => ?_) (fun j i hjj ej hii ei hej => ?_) (fun j i hjj ej hii ei hej hs => ?_) (fun j i c hjj ej hii ei hej hs hc hxu => ?_) (fun j i c hjj ej hii ei hej hs hc hxu hal => ?_) (fun j i c hjj ej hii ei hej hs hc hxu hal => ?_)
  · simp [sp_take, rD, rF, rS, rU, e] at hr
    subst hr
    change cd_Go _ _ _ _ _ _ _ _ _ _
    refine g_istore O d_Mo_take_8 (Nat.le_of_ble_eq_true rfl) ?_
    refine g_iload O d_Mo_take_10 rfl ?_
    refine g_if_eq  O 22 d_Mo_take_12 (by decide) (fun c12 => ?_) (fun c12 => ?_)
    · exact absurd c12 (by decide)
    · first | refine g_aload_n O 0 d_Mo_take_15 rfl rfl ?_ | refine g_aload_nq O 0 d_Mo_take_15 rfl rfl ?_
      refine g_iload O d_Mo_take_16 rfl ?_
      refine g_callv (N := 0) (mc := 0) (ms := 0) (av := [_]) O (Or.inl ⟨_, _, cw_Mo_fail⟩) pl_Mo (ci := 6) (q := q_Mo) rfl hM.km ml_Mo_84 im_Mo_fail se_Mo_fail rfl d_Mo_take_18 rfl (Nat.le_of_ble_eq_true rfl) (Nat.le_of_ble_eq_true rfl) (Nat.le_of_ble_eq_true rfl) (Nat.le_of_ble_eq_true rfl) ?_
      refine ct_Mo_fail hM.km ?_
      change cd_Go _ _ _ _ _ _ _ _ _ _
      refine g_iret O d_Mo_take_21 (Nat.le_of_ble_eq_true rfl) (Nat.le_of_ble_eq_true rfl) ?_
      exact MC.fail (c := 1) (by decide) hM hL cd_Fr.rf h
  · subst ej ei
    have h6j : j < 6 := Nat.lt_of_lt_of_le hjj hM.D6
    have hclj : (nI j).toNatClampNeg = j := nI_clamp (by omega)
    have hcli : (nI i).toNatClampNeg = i := nI_clamp (by omega)
    have hDj : isD σ (nI j) = true := isD_nI hjj hM.D6
    have hSi : isSl (nI i) = true := isSl_nI hii
    simp [sp_take, rD, rF, rS, rU, hDj, hSi, hclj, hcli, hej] at hr
    subst hr
    change cd_Go _ _ _ _ _ _ _ _ _ _
    refine g_istore O d_Mo_take_8 (Nat.le_of_ble_eq_true rfl) ?_
    refine g_iload O d_Mo_take_10 rfl ?_
    refine g_if_eq  O 22 d_Mo_take_12 (by decide) (fun c12 => ?_) (fun c12 => ?_)
    · exact absurd c12 (by decide)
    · first | refine g_aload_n O 0 d_Mo_take_15 rfl rfl ?_ | refine g_aload_nq O 0 d_Mo_take_15 rfl rfl ?_
      refine g_iload O d_Mo_take_16 rfl ?_
      refine g_callv (N := 0) (mc := 0) (ms := 0) (av := [_]) O (Or.inl ⟨_, _, cw_Mo_fail⟩) pl_Mo (ci := 6) (q := q_Mo) rfl hM.km ml_Mo_84 im_Mo_fail se_Mo_fail rfl d_Mo_take_18 rfl (Nat.le_of_ble_eq_true rfl) (Nat.le_of_ble_eq_true rfl) (Nat.le_of_ble_eq_true rfl) (Nat.le_of_ble_eq_true rfl) ?_
      refine ct_Mo_fail hM.km ?_
      change cd_Go _ _ _ _ _ _ _ _ _ _
      refine g_iret O d_Mo_take_21 (Nat.le_of_ble_eq_true rfl) (Nat.le_of_ble_eq_true rfl) ?_
      exact MC.fail (c := 2) (by decide) hM hL cd_Fr.rf h
  · subst ej ei
    have h6j : j < 6 := Nat.lt_of_lt_of_le hjj hM.D6
    have hclj : (nI j).toNatClampNeg = j := nI_clamp (by omega)
    have hcli : (nI i).toNatClampNeg = i := nI_clamp (by omega)
    have hDj : isD σ (nI j) = true := isD_nI hjj hM.D6
    have hSi : isSl (nI i) = true := isSl_nI hii
    simp [sp_take, rD, rF, rS, rU, hDj, hSi, hclj, hcli, hej, hs] at hr
    subst hr
    change cd_Go _ _ _ _ _ _ _ _ _ _
    refine g_istore O d_Mo_take_8 (Nat.le_of_ble_eq_true rfl) ?_
    refine g_iload O d_Mo_take_10 rfl ?_
    refine g_if_eq  O 22 d_Mo_take_12 (by decide) (fun c12 => ?_) (fun c12 => ?_)
    · exact absurd c12 (by decide)
    · first | refine g_aload_n O 0 d_Mo_take_15 rfl rfl ?_ | refine g_aload_nq O 0 d_Mo_take_15 rfl rfl ?_
      refine g_iload O d_Mo_take_16 rfl ?_
      refine g_callv (N := 0) (mc := 0) (ms := 0) (av := [_]) O (Or.inl ⟨_, _, cw_Mo_fail⟩) pl_Mo (ci := 6) (q := q_Mo) rfl hM.km ml_Mo_84 im_Mo_fail se_Mo_fail rfl d_Mo_take_18 rfl (Nat.le_of_ble_eq_true rfl) (Nat.le_of_ble_eq_true rfl) (Nat.le_of_ble_eq_true rfl) (Nat.le_of_ble_eq_true rfl) ?_
      refine ct_Mo_fail hM.km ?_
      change cd_Go _ _ _ _ _ _ _ _ _ _
      refine g_iret O d_Mo_take_21 (Nat.le_of_ble_eq_true rfl) (Nat.le_of_ble_eq_true rfl) ?_
      exact MC.fail (c := 3) (by decide) hM hL cd_Fr.rf h
  · subst ej ei
    have h6j : j < 6 := Nat.lt_of_lt_of_le hjj hM.D6
    have hclj : (nI j).toNatClampNeg = j := nI_clamp (by omega)
    have hcli : (nI i).toNatClampNeg = i := nI_clamp (by omega)
    have hDj : isD σ (nI j) = true := isD_nI hjj hM.D6
    have hSi : isSl (nI i) = true := isSl_nI hii
    have hxu := Bool.or_eq_true_iff.mp hxu
    simp [sp_take, rD, rF, rS, rU, hDj, hSi, hclj, hcli, hej, hs, hxu] at hr
    subst hr
    change cd_Go _ _ _ _ _ _ _ _ _ _
    refine g_istore O d_Mo_take_8 (Nat.le_of_ble_eq_true rfl) ?_
    refine g_iload O d_Mo_take_10 rfl ?_
    refine g_if_eq  O 22 d_Mo_take_12 (by decide) (fun c12 => ?_) (fun c12 => ?_)
    · exact absurd c12 (by decide)
    · first | refine g_aload_n O 0 d_Mo_take_15 rfl rfl ?_ | refine g_aload_nq O 0 d_Mo_take_15 rfl rfl ?_
      refine g_iload O d_Mo_take_16 rfl ?_
      refine g_callv (N := 0) (mc := 0) (ms := 0) (av := [_]) O (Or.inl ⟨_, _, cw_Mo_fail⟩) pl_Mo (ci := 6) (q := q_Mo) rfl hM.km ml_Mo_84 im_Mo_fail se_Mo_fail rfl d_Mo_take_18 rfl (Nat.le_of_ble_eq_true rfl) (Nat.le_of_ble_eq_true rfl) (Nat.le_of_ble_eq_true rfl) (Nat.le_of_ble_eq_true rfl) ?_
      refine ct_Mo_fail hM.km ?_
      change cd_Go _ _ _ _ _ _ _ _ _ _
      refine g_iret O d_Mo_take_21 (Nat.le_of_ble_eq_true rfl) (Nat.le_of_ble_eq_true rfl) ?_
      exact MC.fail (c := 2) (by decide) hM hL cd_Fr.rf h
  · subst ej ei
    have h6j : j < 6 := Nat.lt_of_lt_of_le hjj hM.D6
    have hclj : (nI j).toNatClampNeg = j := nI_clamp (by omega)
    have hcli : (nI i).toNatClampNeg = i := nI_clamp (by omega)
    have hDj : isD σ (nI j) = true := isD_nI hjj hM.D6
    have hSi : isSl (nI i) = true := isSl_nI hii
    have hxu := Bool.or_eq_false_iff.mp hxu
    simp [sp_take, rD, rF, rS, rU, hDj, hSi, hclj, hcli, hej, hs, hxu, hal] at hr
    subst hr
    change cd_Go _ _ _ _ _ _ _ _ _ _
    refine g_istore O d_Mo_take_8 (Nat.le_of_ble_eq_true rfl) ?_
    refine g_iload O d_Mo_take_10 rfl ?_
    refine g_if_eq  O 22 d_Mo_take_12 (by decide) (fun c12 => ?_) (fun c12 => ?_)
    · exact absurd c12 (by decide)
    · first | refine g_aload_n O 0 d_Mo_take_15 rfl rfl ?_ | refine g_aload_nq O 0 d_Mo_take_15 rfl rfl ?_
      refine g_iload O d_Mo_take_16 rfl ?_
      refine g_callv (N := 0) (mc := 0) (ms := 0) (av := [_]) O (Or.inl ⟨_, _, cw_Mo_fail⟩) pl_Mo (ci := 6) (q := q_Mo) rfl hM.km ml_Mo_84 im_Mo_fail se_Mo_fail rfl d_Mo_take_18 rfl (Nat.le_of_ble_eq_true rfl) (Nat.le_of_ble_eq_true rfl) (Nat.le_of_ble_eq_true rfl) (Nat.le_of_ble_eq_true rfl) ?_
      refine ct_Mo_fail hM.km ?_
      change cd_Go _ _ _ _ _ _ _ _ _ _
      refine g_iret O d_Mo_take_21 (Nat.le_of_ble_eq_true rfl) (Nat.le_of_ble_eq_true rfl) ?_
      exact MC.fail (c := 4) (by decide) hM hL cd_Fr.rf h
  subst ej ei
  have h6j : j < 6 := Nat.lt_of_lt_of_le hjj hM.D6
  have hclj : (nI j).toNatClampNeg = j := nI_clamp (by omega)
  have hcli : (nI i).toNatClampNeg = i := nI_clamp (by omega)
  have hDj : isD σ (nI j) = true := isD_nI hjj hM.D6
  have hSi : isSl (nI i) = true := isSl_nI hii
  have hxu := Bool.or_eq_false_iff.mp hxu
  obtain ⟨l1, l2, l3⟩ := hI.lv hc hxu.1
  have hw := hM.hw hc
  have hC := hM.C40
  change cd_Go _ _ _ _ _ _ _ _ _ _
  refine g_istore O d_Mo_take_8 (Nat.le_of_ble_eq_true rfl) ?_
  refine g_iload O d_Mo_take_10 rfl ?_
  refine g_if_eq  O 22 d_Mo_take_12 (by decide) (fun c12 => ?_) (fun c12 => ?_)
  · first | refine g_aload_n O 0 d_Mo_take_22 rfl rfl ?_ | refine g_aload_nq O 0 d_Mo_take_22 rfl rfl ?_
    refine g_iload_n O 3 d_Mo_take_23 rfl rfl ?_
    refine g_iconst (v := 3) O d_Mo_take_24 (by decide) ?_
    refine g_callv (N := 0) (mc := 0) (ms := 0) (av := [_, _]) O (Or.inl ⟨_, _, cw_Mo_out⟩) pl_Mo (ci := 6) (q := q_Mo) rfl hM.km ml_Mo_66 im_Mo_out se_Mo_out rfl d_Mo_take_25 rfl (Nat.le_of_ble_eq_true rfl) (Nat.le_of_ble_eq_true rfl) (Nat.le_of_ble_eq_true rfl) (Nat.le_of_ble_eq_true rfl) ?_
    refine ct_Mo_out ?_
    change cd_Go _ _ _ _ _ _ _ _ _ _
    refine g_if_ne  O 42 d_Mo_take_28 (by decide) (fun c28 => ?_) (fun c28 => ?_)
    · have hFi : isFi _ = false := (cd_nbn _).mp c28
      simp [sp_take, rD, rF, rS, rU, hDj, hSi, hclj, hcli, hej, hs, hxu, hal, hFi] at hr
      subst hr
      first | refine g_aload_n O 0 d_Mo_take_42 rfl rfl ?_ | refine g_aload_nq O 0 d_Mo_take_42 rfl rfl ?_
      refine g_iconst (v := 5) O d_Mo_take_43 (by decide) ?_
      refine g_callv (N := 0) (mc := 0) (ms := 0) (av := [_]) O (Or.inl ⟨_, _, cw_Mo_fail⟩) pl_Mo (ci := 6) (q := q_Mo) rfl hM.km ml_Mo_84 im_Mo_fail se_Mo_fail rfl d_Mo_take_44 rfl (Nat.le_of_ble_eq_true rfl) (Nat.le_of_ble_eq_true rfl) (Nat.le_of_ble_eq_true rfl) (Nat.le_of_ble_eq_true rfl) ?_
      refine ct_Mo_fail hM.km ?_
      change cd_Go _ _ _ _ _ _ _ _ _ _
      refine g_iret O d_Mo_take_47 (Nat.le_of_ble_eq_true rfl) (Nat.le_of_ble_eq_true rfl) ?_
      exact MC.fail (c := 5) (by decide) hM hL cd_Fr.rf h
    · have hFi : isFi _ = true := (cd_nb _).mp c28
      obtain ⟨q, hq, rfl⟩ := isFi_of hFi
      have hclq : (nI q).toNatClampNeg = q := nI_clamp (by omega)
      first | refine g_aload_n O 0 d_Mo_take_31 rfl rfl ?_ | refine g_aload_nq O 0 d_Mo_take_31 rfl rfl ?_
      refine g_iload O d_Mo_take_32 rfl ?_
      refine g_bipush (v := 8) O d_Mo_take_34 (by decide) ?_
      refine g_callv (N := 0) (mc := 0) (ms := 0) (av := [_, _]) O (Or.inl ⟨_, _, cw_Mo_out⟩) pl_Mo (ci := 6) (q := q_Mo) rfl hM.km ml_Mo_66 im_Mo_out se_Mo_out rfl d_Mo_take_36 rfl (Nat.le_of_ble_eq_true rfl) (Nat.le_of_ble_eq_true rfl) (Nat.le_of_ble_eq_true rfl) (Nat.le_of_ble_eq_true rfl) ?_
      refine ct_Mo_out ?_
      change cd_Go _ _ _ _ _ _ _ _ _ _
      refine g_if_eq  O 48 d_Mo_take_39 (by decide) (fun c39 => ?_) (fun c39 => ?_)
      · have hSt : isSl _ = true := (cd_nb _).mp c39
        obtain ⟨t, hit, rfl⟩ := isSl_of hSt
        have hclt : (nI t).toNatClampNeg = t := nI_clamp (by omega)
        first | refine g_aload_n O 0 d_Mo_take_48 rfl rfl ?_ | refine g_aload_nq O 0 d_Mo_take_48 rfl rfl ?_
        refine g_getS O c_Mo 7 (by decide) rfl hM.km lk_Mo_33 d_Mo_take_49 (hM.a 7 (by omega) (by omega)).1 ?_
        refine g_iload_n O 1 d_Mo_take_52 rfl rfl ?_
        refine g_bipush (v := 8) O d_Mo_take_53 (by decide) ?_
        refine g_imul O d_Mo_take_55 ?_
        refine g_iload_n O 2 d_Mo_take_56 rfl rfl ?_
        refine g_iadd O d_Mo_take_57 ?_
        rw [m8, nI_add]
        refine g_ialdV O 0 rfl rfl (hM.a 7 (by omega) (by omega)).2.1 (by (try simp only [ln_wI]); rw [(hM.a 7 (by omega) (by omega)).2.2]; exact ix_in (n := 48) (show j * 8 + i < 48 from by omega) (by omega)) d_Mo_take_58 (Eq.trans (congrArg (cd_I _ (1000 + 0) (B 7)) (cl_nI (j := j * 8 + i) (by omega))) (((hM.S h6j hii).trans (congrArg cd_l hs) : _ = nI c))) ?_
        refine g_istore O d_Mo_take_59 (Nat.le_of_ble_eq_true rfl) ?_
        first | refine g_aload_n O 0 d_Mo_take_61 rfl rfl ?_ | refine g_aload_nq O 0 d_Mo_take_61 rfl rfl ?_
        refine g_getS O c_Mo 8 (by decide) rfl hM.km lk_Mo_36 d_Mo_take_62 (hM.a 8 (by omega) (by omega)).1 ?_
        refine g_iload O d_Mo_take_65 rfl ?_
        refine g_ialdV O 0 rfl rfl (hM.a 8 (by omega) (by omega)).2.1 (by (try simp only [ln_wI]); rw [(hM.a 8 (by omega) (by omega)).2.2]; exact ix_in (n := 40) (show c < 40 from by omega) (by omega)) d_Mo_take_67 (Eq.trans (congrArg (cd_I _ (1000 + 0) (B 8)) (cl_nI (j := c) (by omega))) ((hM.K hc).1)) ?_
        refine g_iconst (v := 3) O d_Mo_take_68 (by decide) ?_
        refine g_imul O d_Mo_take_69 ?_
        refine g_iload_n O 3 d_Mo_take_70 rfl rfl ?_
        refine g_iadd O d_Mo_take_71 ?_
        rw [m3, nI_add]
        refine g_istore O d_Mo_take_72 (Nat.le_of_ble_eq_true rfl) ?_
        first | refine g_aload_n O 0 d_Mo_take_74 rfl rfl ?_ | refine g_aload_nq O 0 d_Mo_take_74 rfl rfl ?_
        refine g_getS O c_Mo 5 (by decide) rfl hM.km lk_Mo_26 d_Mo_take_75 (hM.a 5 (by omega) (by omega)).1 ?_
        refine g_iload O d_Mo_take_78 rfl ?_
        refine g_ialdV O 0 rfl rfl (hM.a 5 (by omega) (by omega)).2.1 (by (try simp only [ln_wI]); rw [(hM.a 5 (by omega) (by omega)).2.2]; exact ix_in (n := 216) (show (kH σ c * 12 + kT σ c) * 3 + q < 216 from by omega) (by omega)) d_Mo_take_80 (Eq.trans (congrArg (cd_I _ (1000 + 0) (B 5)) (cl_nI (j := (kH σ c * 12 + kT σ c) * 3 + q) (by omega))) ((hM.F hw.1 hw.2.2.1 hq).1)) ?_
        refine g_iconst (v := 2) O d_Mo_take_81 (by decide) ?_
        refine g_icmp_eq  O 92 d_Mo_take_82 (by decide) (fun c82 => ?_) (fun c82 => ?_)
        · obtain ⟨y, hcp, eV⟩ := fS_2 c82
          have hy : y < sC σ := hM.wf.2.1 _ _ _ y hw.2.1 hw.2.2.1 hq hcp
          have hS2 := (spend_eqv σ c).2.2.2.2.1 j t
          simp [sp_take, rD, rF, rS, rU, hDj, hSi, hclj, hcli, hej, hs, hxu, hal, hFi, hclq, hSt, hclt, hcp] at hr
          subst hr
          rw [hS2] at h
          first | refine g_aload_n O 0 d_Mo_take_92 rfl rfl ?_ | refine g_aload_nq O 0 d_Mo_take_92 rfl rfl ?_
          refine g_getS O c_Mo 7 (by decide) rfl hM.km lk_Mo_33 d_Mo_take_93 (hM.a 7 (by omega) (by omega)).1 ?_
          refine g_iload_n O 1 d_Mo_take_96 rfl rfl ?_
          refine g_bipush (v := 8) O d_Mo_take_97 (by decide) ?_
          refine g_imul O d_Mo_take_99 ?_
          refine g_iload O d_Mo_take_100 rfl ?_
          refine g_iadd O d_Mo_take_102 ?_
          rw [m8, nI_add]
          refine g_ialdV O 0 rfl rfl (hM.a 7 (by omega) (by omega)).2.1 (by (try simp only [ln_wI]); rw [(hM.a 7 (by omega) (by omega)).2.2]; exact ix_in (n := 48) (show j * 8 + t < 48 from by omega) (by omega)) d_Mo_take_103 (Eq.trans (congrArg (cd_I _ (1000 + 0) (B 7)) (cl_nI (j := j * 8 + t) (by omega))) (hM.S h6j hit)) ?_
          refine g_if_lt  O 111 d_Mo_take_104 (by decide) (fun c104 => ?_) (fun c104 => ?_)
          · have e1 : (sS σ j t).isSome = false := by rw [(cd_lt (fun c hc => Nat.lt_of_lt_of_le (hM.wf.1 j t c hjj hit hc) hM.C40)).mp c104]; rfl
            rw [e1] at h
            refine g_iconst (v := 0) O d_Mo_take_111 (by decide) ?_
            refine g_istore O d_Mo_take_112 (Nat.le_of_ble_eq_true rfl) ?_
            first | refine g_aload_n O 0 d_Mo_take_114 rfl rfl ?_ | refine g_aload_nq O 0 d_Mo_take_114 rfl rfl ?_
            refine g_iload O d_Mo_take_115 rfl ?_
            refine g_callv (N := 0) (mc := 0) (ms := 0) (av := [_]) O (Or.inl ⟨_, _, cw_Mo_use⟩) pl_Mo (ci := 6) (q := q_Mo) rfl hM.km ml_Mo_115 im_Mo_use se_Mo_use rfl d_Mo_take_117 rfl (Nat.le_of_ble_eq_true rfl) (Nat.le_of_ble_eq_true rfl) (Nat.le_of_ble_eq_true rfl) (Nat.le_of_ble_eq_true rfl) ?_
            refine ct_Mo_use hM hc (fun w1 hM1 hF1 => ?_)
            have hQ : cd_I w1 1000 (B 6) ((kH σ c * 12 + kT σ c) * 3 + q) = nI y := by rw [(hM1.F hw.1 hw.2.2.1 hq).2, (spend_eqv σ c).2.2.2.1, eV]
            have hy1 : y < sC (spend σ c) := by rw [(spend_eqv σ c).1.2]; exact hy
            change cd_Go _ _ _ _ _ _ _ _ _ _
            first | refine g_aload_n O 0 d_Mo_take_120 rfl rfl ?_ | refine g_aload_nq O 0 d_Mo_take_120 rfl rfl ?_
            refine g_getS O c_Mo 7 (by decide) rfl hM1.km lk_Mo_33 d_Mo_take_121 (hM1.a 7 (by omega) (by omega)).1 ?_
            refine g_iload_n O 1 d_Mo_take_124 rfl rfl ?_
            refine g_bipush (v := 8) O d_Mo_take_125 (by decide) ?_
            refine g_imul O d_Mo_take_127 ?_
            refine g_iload O d_Mo_take_128 rfl ?_
            refine g_iadd O d_Mo_take_130 ?_
            rw [m8, nI_add]
            first | refine g_aload_n O 0 d_Mo_take_131 rfl rfl ?_ | refine g_aload_nq O 0 d_Mo_take_131 rfl rfl ?_
            refine g_getS O c_Mo 6 (by decide) rfl hM1.km lk_Mo_30 d_Mo_take_132 (hM1.a 6 (by omega) (by omega)).1 ?_
            refine g_iload O d_Mo_take_135 rfl ?_
            refine g_ialdV O 0 rfl rfl (hM1.a 6 (by omega) (by omega)).2.1 (by (try simp only [ln_wI]); rw [(hM1.a 6 (by omega) (by omega)).2.2]; exact ix_in (n := 216) (show (kH σ c * 12 + kT σ c) * 3 + q < 216 from by omega) (by omega)) d_Mo_take_137 (Eq.trans (congrArg (cd_I _ (1000 + 0) (B 6)) (cl_nI (j := (kH σ c * 12 + kT σ c) * 3 + q) (by omega))) (hQ)) ?_
            refine g_iast O 0 rfl rfl (hM1.a 7 (by omega) (by omega)).2.1 (by (try simp only [ln_wI]); rw [(hM1.a 7 (by omega) (by omega)).2.2]; exact ix_in (n := 48) (show j * 8 + t < 48 from by omega) (by omega)) d_Mo_take_138 ?_
            rw [cl_nI (show j * 8 + t < 2 ^ 31 by omega)]
            have hM2 := rm_S hM1 j hit (some y) (fun _ z => by cases z; exact hy1)
            first | refine g_aload_n O 0 d_Mo_take_139 rfl rfl ?_ | refine g_aload_nq O 0 d_Mo_take_139 rfl rfl ?_
            refine g_iload O d_Mo_take_140 rfl ?_
            refine g_callv (N := 0) (mc := 0) (ms := 0) (av := [_]) O (Or.inl ⟨_, _, cw_Mo_fine⟩) pl_Mo (ci := 6) (q := q_Mo) rfl hM2.km ml_Mo_87 im_Mo_fine se_Mo_fine rfl d_Mo_take_142 rfl (Nat.le_of_ble_eq_true rfl) (Nat.le_of_ble_eq_true rfl) (Nat.le_of_ble_eq_true rfl) (Nat.le_of_ble_eq_true rfl) ?_
            refine ct_Mo_fine hM2.km ?_
            change cd_Go _ _ _ _ _ _ _ _ _ _
            refine g_iret O d_Mo_take_145 (Nat.le_of_ble_eq_true rfl) (Nat.le_of_ble_eq_true rfl) ?_
            exact MC.fine hM2 (((spend_eqv σ c).rel hL).cg rfl (fun _ => rfl) (fun _ => rfl) (fun _ => rfl) (fun _ => rfl)) ((fr_10 hF1).tr (cd_Fr.wI (mow_k (k := 7) (by omega) (by omega)))) h
          · have e1 : (sS σ j t).isSome = true := by cases hz : sS σ j t with
              | none => rw [hz] at c104; exact absurd (by decide) c104
              | some z => rfl
            rw [e1] at h
            refine g_iconst (v := 1) O d_Mo_take_107 (by decide) ?_
            refine g_goto O 112 d_Mo_take_108 (by decide) ?_
            refine g_istore O d_Mo_take_112 (Nat.le_of_ble_eq_true rfl) ?_
            first | refine g_aload_n O 0 d_Mo_take_114 rfl rfl ?_ | refine g_aload_nq O 0 d_Mo_take_114 rfl rfl ?_
            refine g_iload O d_Mo_take_115 rfl ?_
            refine g_callv (N := 0) (mc := 0) (ms := 0) (av := [_]) O (Or.inl ⟨_, _, cw_Mo_use⟩) pl_Mo (ci := 6) (q := q_Mo) rfl hM.km ml_Mo_115 im_Mo_use se_Mo_use rfl d_Mo_take_117 rfl (Nat.le_of_ble_eq_true rfl) (Nat.le_of_ble_eq_true rfl) (Nat.le_of_ble_eq_true rfl) (Nat.le_of_ble_eq_true rfl) ?_
            refine ct_Mo_use hM hc (fun w1 hM1 hF1 => ?_)
            have hQ : cd_I w1 1000 (B 6) ((kH σ c * 12 + kT σ c) * 3 + q) = nI y := by rw [(hM1.F hw.1 hw.2.2.1 hq).2, (spend_eqv σ c).2.2.2.1, eV]
            have hy1 : y < sC (spend σ c) := by rw [(spend_eqv σ c).1.2]; exact hy
            change cd_Go _ _ _ _ _ _ _ _ _ _
            first | refine g_aload_n O 0 d_Mo_take_120 rfl rfl ?_ | refine g_aload_nq O 0 d_Mo_take_120 rfl rfl ?_
            refine g_getS O c_Mo 7 (by decide) rfl hM1.km lk_Mo_33 d_Mo_take_121 (hM1.a 7 (by omega) (by omega)).1 ?_
            refine g_iload_n O 1 d_Mo_take_124 rfl rfl ?_
            refine g_bipush (v := 8) O d_Mo_take_125 (by decide) ?_
            refine g_imul O d_Mo_take_127 ?_
            refine g_iload O d_Mo_take_128 rfl ?_
            refine g_iadd O d_Mo_take_130 ?_
            rw [m8, nI_add]
            first | refine g_aload_n O 0 d_Mo_take_131 rfl rfl ?_ | refine g_aload_nq O 0 d_Mo_take_131 rfl rfl ?_
            refine g_getS O c_Mo 6 (by decide) rfl hM1.km lk_Mo_30 d_Mo_take_132 (hM1.a 6 (by omega) (by omega)).1 ?_
            refine g_iload O d_Mo_take_135 rfl ?_
            refine g_ialdV O 0 rfl rfl (hM1.a 6 (by omega) (by omega)).2.1 (by (try simp only [ln_wI]); rw [(hM1.a 6 (by omega) (by omega)).2.2]; exact ix_in (n := 216) (show (kH σ c * 12 + kT σ c) * 3 + q < 216 from by omega) (by omega)) d_Mo_take_137 (Eq.trans (congrArg (cd_I _ (1000 + 0) (B 6)) (cl_nI (j := (kH σ c * 12 + kT σ c) * 3 + q) (by omega))) (hQ)) ?_
            refine g_iast O 0 rfl rfl (hM1.a 7 (by omega) (by omega)).2.1 (by (try simp only [ln_wI]); rw [(hM1.a 7 (by omega) (by omega)).2.2]; exact ix_in (n := 48) (show j * 8 + t < 48 from by omega) (by omega)) d_Mo_take_138 ?_
            rw [cl_nI (show j * 8 + t < 2 ^ 31 by omega)]
            have hM2 := rm_S hM1 j hit (some y) (fun _ z => by cases z; exact hy1)
            first | refine g_aload_n O 0 d_Mo_take_139 rfl rfl ?_ | refine g_aload_nq O 0 d_Mo_take_139 rfl rfl ?_
            refine g_iload O d_Mo_take_140 rfl ?_
            refine g_callv (N := 0) (mc := 0) (ms := 0) (av := [_]) O (Or.inl ⟨_, _, cw_Mo_fine⟩) pl_Mo (ci := 6) (q := q_Mo) rfl hM2.km ml_Mo_87 im_Mo_fine se_Mo_fine rfl d_Mo_take_142 rfl (Nat.le_of_ble_eq_true rfl) (Nat.le_of_ble_eq_true rfl) (Nat.le_of_ble_eq_true rfl) (Nat.le_of_ble_eq_true rfl) ?_
            refine ct_Mo_fine hM2.km ?_
            change cd_Go _ _ _ _ _ _ _ _ _ _
            refine g_iret O d_Mo_take_145 (Nat.le_of_ble_eq_true rfl) (Nat.le_of_ble_eq_true rfl) ?_
            exact MC.fine hM2 (((spend_eqv σ c).rel hL).cg rfl (fun _ => rfl) (fun _ => rfl) (fun _ => rfl) (fun _ => rfl)) ((fr_10 hF1).tr (cd_Fr.wI (mow_k (k := 7) (by omega) (by omega)))) h
        · have hcp := fS_n2 c82
          simp [sp_take, rD, rF, rS, rU, hDj, hSi, hclj, hcli, hej, hs, hxu, hal, hFi, hclq, hSt, hclt, hcp] at hr
          subst hr
          first | refine g_aload_n O 0 d_Mo_take_85 rfl rfl ?_ | refine g_aload_nq O 0 d_Mo_take_85 rfl rfl ?_
          refine g_bipush (v := 6) O d_Mo_take_86 (by decide) ?_
          refine g_callv (N := 0) (mc := 0) (ms := 0) (av := [_]) O (Or.inl ⟨_, _, cw_Mo_fail⟩) pl_Mo (ci := 6) (q := q_Mo) rfl hM.km ml_Mo_84 im_Mo_fail se_Mo_fail rfl d_Mo_take_88 rfl (Nat.le_of_ble_eq_true rfl) (Nat.le_of_ble_eq_true rfl) (Nat.le_of_ble_eq_true rfl) (Nat.le_of_ble_eq_true rfl) ?_
          refine ct_Mo_fail hM.km ?_
          change cd_Go _ _ _ _ _ _ _ _ _ _
          refine g_iret O d_Mo_take_91 (Nat.le_of_ble_eq_true rfl) (Nat.le_of_ble_eq_true rfl) ?_
          exact MC.fail (c := 6) (by decide) hM hL cd_Fr.rf h
      · have hn : isSl _ = false := (cd_nbn _).mp c39
        simp [sp_take, rD, rF, rS, rU, hDj, hSi, hclj, hcli, hej, hs, hxu, hal, hFi, hclq, hn] at hr
        subst hr
        first | refine g_aload_n O 0 d_Mo_take_42 rfl rfl ?_ | refine g_aload_nq O 0 d_Mo_take_42 rfl rfl ?_
        refine g_iconst (v := 5) O d_Mo_take_43 (by decide) ?_
        refine g_callv (N := 0) (mc := 0) (ms := 0) (av := [_]) O (Or.inl ⟨_, _, cw_Mo_fail⟩) pl_Mo (ci := 6) (q := q_Mo) rfl hM.km ml_Mo_84 im_Mo_fail se_Mo_fail rfl d_Mo_take_44 rfl (Nat.le_of_ble_eq_true rfl) (Nat.le_of_ble_eq_true rfl) (Nat.le_of_ble_eq_true rfl) (Nat.le_of_ble_eq_true rfl) ?_
        refine ct_Mo_fail hM.km ?_
        change cd_Go _ _ _ _ _ _ _ _ _ _
        refine g_iret O d_Mo_take_47 (Nat.le_of_ble_eq_true rfl) (Nat.le_of_ble_eq_true rfl) ?_
        exact MC.fail (c := 5) (by decide) hM hL cd_Fr.rf h
  · exact absurd rfl c12
