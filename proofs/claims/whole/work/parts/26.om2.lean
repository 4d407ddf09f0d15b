set_option maxHeartbeats 4000000 in
set_option maxRecDepth 100000 in
theorem om_domain {G : cd_Gl} {l : Launch} {w : cd_Wd} {Q : cd_Out → cd_Wd → Prop} {m : Nat} {B : Nat → Nat} {σ : cd_S} {g : Nat → Bool} (hM : RepM w m B σ g) (hL : Rel σ g) (hI : cd_Iv σ) {r : cd_R} (hr : sp_domain σ = r) (h : MC w m B r Q) : cd_Ct G l y_Mo_domain 1 0 0 [.ref m] w Q := by
  refine cd_ofW cw_Mo_domain (by simp [Value.category, cat_rf]) (Nat.le_of_ble_eq_true rfl) fun C O => ?_
  change cd_Go G l C _ 0 0 w 0 [some (.ref m)] []
  first | refine g_aload_n O 0 d_Mo_domain_0 rfl rfl ?_ | refine g_aload_nq O 0 d_Mo_domain_0 rfl rfl ?_
  refine g_getV O c_Mo 0 (by decide) rfl hM.km lk_Mo_7 d_Mo_domain_1 hM.D ?_
  refine g_bipush (v := 6) O d_Mo_domain_4 (by decide) ?_
  refine g_icmp_ne  O 15 d_Mo_domain_6 (by decide) (fun c6 => ?_) (fun c6 => ?_)
  · have hn : sD σ < 6 := by
      have h6 := hM.D6
      have : ¬ sD σ = 6 := fun z => c6 (by rw [z]; rfl)
      omega
    simp [sp_domain, rD, rF, rS, rU, hn] at hr
    subst hr
    first | refine g_aload_n O 0 d_Mo_domain_15 rfl rfl ?_ | refine g_aload_nq O 0 d_Mo_domain_15 rfl rfl ?_
    refine g_dup O d_Mo_domain_16 (by first | rfl | exact cat_rf _) ?_
    refine g_getV O c_Mo 0 (by decide) rfl hM.km lk_Mo_7 d_Mo_domain_17 hM.D ?_
    refine g_iconst (v := 1) O d_Mo_domain_20 (by decide) ?_
    refine g_iadd O d_Mo_domain_21 ?_
    rw [nI_1]
    have hM1 := rm_D hM hI.1 hn
    refine g_putI O c_Mo 0 (by decide) rfl hM.km (Or.inl rfl) (Or.inl rfl) lk_Mo_7 d_Mo_domain_22 ?_
    first | refine g_aload_n O 0 d_Mo_domain_25 rfl rfl ?_ | refine g_aload_nq O 0 d_Mo_domain_25 rfl rfl ?_
    first | refine g_aload_n O 0 d_Mo_domain_26 rfl rfl ?_ | refine g_aload_nq O 0 d_Mo_domain_26 rfl rfl ?_
    refine g_getV O c_Mo 0 (by decide) rfl hM1.km lk_Mo_7 d_Mo_domain_27 (show cd_I _ 192 m 0 = nI (sD σ + 1) from hM1.D) ?_
    refine g_iconst (v := 1) O d_Mo_domain_30 (by decide) ?_
    refine g_isub O d_Mo_domain_31 ?_
    rw [nI_pred]
    refine g_callv (N := 0) (mc := 0) (ms := 0) (av := [_]) O (Or.inl ⟨_, _, cw_Mo_fine⟩) pl_Mo (ci := 6) (q := q_Mo) rfl hM1.km ml_Mo_87 im_Mo_fine se_Mo_fine rfl d_Mo_domain_32 rfl (Nat.le_of_ble_eq_true rfl) (Nat.le_of_ble_eq_true rfl) (Nat.le_of_ble_eq_true rfl) (Nat.le_of_ble_eq_true rfl) ?_
    refine ct_Mo_fine hM1.km ?_
    change cd_Go _ _ _ _ _ _ _ _ _ _
    refine g_iret O d_Mo_domain_35 (Nat.le_of_ble_eq_true rfl) (Nat.le_of_ble_eq_true rfl) ?_
    exact MC.fine hM1 (hL.cg rfl (fun _ => rfl) (fun _ => rfl) (fun _ => rfl) (fun _ => rfl)) (cd_Fr.wI (Or.inl rfl)) h
  · have hn : ¬ sD σ < 6 := fun z => by have := (nI_eq (b := 6) (show sD σ < 2 ^ 31 by omega) (by omega)).mp c6; omega
    simp [sp_domain, rD, rF, rS, rU, hn] at hr
    subst hr
    first | refine g_aload_n O 0 d_Mo_domain_9 rfl rfl ?_ | refine g_aload_nq O 0 d_Mo_domain_9 rfl rfl ?_
    refine g_iconst (v := 1) O d_Mo_domain_10 (by decide) ?_
    refine g_callv (N := 0) (mc := 0) (ms := 0) (av := [_]) O (Or.inl ⟨_, _, cw_Mo_fail⟩) pl_Mo (ci := 6) (q := q_Mo) rfl hM.km ml_Mo_84 im_Mo_fail se_Mo_fail rfl d_Mo_domain_11 rfl (Nat.le_of_ble_eq_true rfl) (Nat.le_of_ble_eq_true rfl) (Nat.le_of_ble_eq_true rfl) (Nat.le_of_ble_eq_true rfl) ?_
    refine ct_Mo_fail hM.km ?_
    change cd_Go _ _ _ _ _ _ _ _ _ _
    refine g_iret O d_Mo_domain_14 (Nat.le_of_ble_eq_true rfl) (Nat.le_of_ble_eq_true rfl) ?_
    exact MC.fail (c := 1) (by decide) hM hL cd_Fr.rf h
theorem fr_4 {w w' : cd_Wd} {m : Nat} {B : Nat → Nat} (h : cd_Fr w w' (fun y => y = B 4 ∨ y = B 5 ∨ y = B 6)) : cd_Fr w w' (mow m B) := h.up fun y _ z => by
  rcases z with rfl | rfl | rfl
  · exact mow_k (k := 4) (by omega) (by omega)
  · exact mow_k (k := 5) (by omega) (by omega)
  · exact mow_k (k := 6) (by omega) (by omega)
theorem fr_5 {w w' : cd_Wd} {m : Nat} {B : Nat → Nat} (h : cd_Fr w w' (fun y => y = B 5 ∨ y = B 6)) : cd_Fr w w' (mow m B) := h.up fun y _ z => by
  rcases z with rfl | rfl
  · exact mow_k (k := 5) (by omega) (by omega)
  · exact mow_k (k := 6) (by omega) (by omega)
theorem fr_10 {w w' : cd_Wd} {m : Nat} {B : Nat → Nat} (h : cd_Fr w w' (fun y => y = B 10)) : cd_Fr w w' (mow m B) := h.up fun y _ z => by
  subst z
  exact mow_k (k := 10) (by omega) (by omega)
set_option maxHeartbeats 4000000 in
set_option maxRecDepth 100000 in
theorem om_object {G : cd_Gl} {l : Launch} {w : cd_Wd} {Q : cd_Out → cd_Wd → Prop} {m : Nat} {B : Nat → Nat} {σ : cd_S} {g : Nat → Bool} (hM : RepM w m B σ g) (hL : Rel σ g) (hI : cd_Iv σ) {d : Int32} {r : cd_R} (hr : sp_object σ d = r) (h : MC w m B r Q) : cd_Ct G l y_Mo_object 2 0 0 [.ref m, .int d] w Q := by
  refine cd_ofW cw_Mo_object (by simp [Value.category, cat_rf]) (Nat.le_of_ble_eq_true rfl) fun C O => ?_
  change cd_Go G l C _ 0 0 w 0 [some (.ref m), some (.int d)] []
  first | refine g_aload_n O 0 d_Mo_object_0 rfl rfl ?_ | refine g_aload_nq O 0 d_Mo_object_0 rfl rfl ?_
  refine g_iload_n O 1 d_Mo_object_1 rfl rfl ?_
  refine g_callv (N := 0) (mc := 0) (ms := 0) (av := [_]) O (Or.inl ⟨_, _, cw_Mo_noDomain⟩) pl_Mo (ci := 6) (q := q_Mo) rfl hM.km ml_Mo_78 im_Mo_noDomain se_Mo_noDomain rfl d_Mo_object_2 rfl (Nat.le_of_ble_eq_true rfl) (Nat.le_of_ble_eq_true rfl) (Nat.le_of_ble_eq_true rfl) (Nat.le_of_ble_eq_true rfl) ?_
  refine ct_Mo_noDomain hM ?_
  change cd_Go _ _ _ _ _ _ _ _ _ _
  refine g_if_eq  O 14 d_Mo_object_5 (by decide) (fun c5 => ?_) (fun c5 => ?_)
  · have hDj := (cd_nb _).mp c5
    obtain ⟨j, hjj, rfl⟩ := isD_of hM.D6 hDj
    have h6j : j < 6 := Nat.lt_of_lt_of_le hjj hM.D6
    have hclj : (nI j).toNatClampNeg = j := nI_clamp (by omega)
    first | refine g_aload_n O 0 d_Mo_object_14 rfl rfl ?_ | refine g_aload_nq O 0 d_Mo_object_14 rfl rfl ?_
    refine g_getS O c_Mo 3 (by decide) rfl hM.km lk_Mo_19 d_Mo_object_15 (hM.a 3 (by omega) (by omega)).1 ?_
    refine g_iload_n O 1 d_Mo_object_18 rfl rfl ?_
    refine g_zaldV O 1 rfl rfl (hM.a 3 (by omega) (by omega)).2.1 (by (try simp only [ln_wI]); rw [(hM.a 3 (by omega) (by omega)).2.2]; exact ix_in (n := 6) (show j < 6 from by omega) (by omega)) d_Mo_object_19 (Eq.trans (congrArg (cd_I _ (1000 + 1) (B 3)) (cl_nI (j := j) (by omega))) (hM.E h6j)) ?_
    refine g_if_eq  O 29 d_Mo_object_20 (by decide) (fun c20 => ?_) (fun c20 => ?_)
    · have hej := cd_b_eq.mp c20
      first | refine g_aload_n O 0 d_Mo_object_29 rfl rfl ?_ | refine g_aload_nq O 0 d_Mo_object_29 rfl rfl ?_
      refine g_iload_n O 1 d_Mo_object_30 rfl rfl ?_
      refine g_callv (N := 0) (mc := 0) (ms := 0) (av := [_]) O (Or.inl ⟨_, _, cw_Mo_objects⟩) pl_Mo (ci := 6) (q := q_Mo) rfl hM.km ml_Mo_94 im_Mo_objects se_Mo_objects rfl d_Mo_object_31 rfl (Nat.le_of_ble_eq_true rfl) (Nat.le_of_ble_eq_true rfl) (Nat.le_of_ble_eq_true rfl) (Nat.le_of_ble_eq_true rfl) ?_
      refine ct_Mo_objects hM h6j ?_
      have hle := cnt_le (sT σ j) 12
      change cd_Go _ _ _ _ _ _ _ _ _ _
      refine g_bipush (v := 12) O d_Mo_object_34 (by decide) ?_
      refine g_icmp_ne  O 47 d_Mo_object_36 (by decide) (fun c36 => ?_) (fun c36 => ?_)
      · have hn : cnt (sT σ j) 12 < 12 := by
          have : ¬ cnt (sT σ j) 12 = 12 := fun z => c36 (by rw [z]; rfl)
          omega
        simp [sp_object, rD, rF, rS, rU, hDj, hclj, hej, hn] at hr
        subst hr
        first | refine g_aload_n O 0 d_Mo_object_47 rfl rfl ?_ | refine g_aload_nq O 0 d_Mo_object_47 rfl rfl ?_
        first | refine g_aload_n O 0 d_Mo_object_48 rfl rfl ?_ | refine g_aload_nq O 0 d_Mo_object_48 rfl rfl ?_
        refine g_iload_n O 1 d_Mo_object_49 rfl rfl ?_
        refine g_callv (N := 1) (mc := 0) (ms := 0) (av := [_]) O (Or.inl ⟨_, _, cw_Mo_newObject⟩) pl_Mo (ci := 6) (q := q_Mo) rfl hM.km ml_Mo_97 im_Mo_newObject se_Mo_newObject rfl d_Mo_object_50 rfl (Nat.le_of_ble_eq_true rfl) (Nat.le_of_ble_eq_true rfl) (Nat.le_of_ble_eq_true rfl) (Nat.le_of_ble_eq_true rfl) ?_
        refine ct_Mo_newObject hM h6j hn (fun w1 hM1 hF1 => ?_)
        change cd_Go _ _ _ _ _ _ _ _ _ _
        refine g_callv (N := 0) (mc := 0) (ms := 0) (av := [_]) O (Or.inl ⟨_, _, cw_Mo_fine⟩) pl_Mo (ci := 6) (q := q_Mo) rfl hM1.km ml_Mo_87 im_Mo_fine se_Mo_fine rfl d_Mo_object_53 rfl (Nat.le_of_ble_eq_true rfl) (Nat.le_of_ble_eq_true rfl) (Nat.le_of_ble_eq_true rfl) (Nat.le_of_ble_eq_true rfl) ?_
        refine ct_Mo_fine hM1.km ?_
        change cd_Go _ _ _ _ _ _ _ _ _ _
        refine g_iret O d_Mo_object_56 (Nat.le_of_ble_eq_true rfl) (Nat.le_of_ble_eq_true rfl) ?_
        first | exact MC.fail (c := 3) (by decide) hM hL cd_Fr.rf h | exact MC.fine hM1 (hL.cg rfl (fun _ => rfl) (fun _ => rfl) (fun _ => rfl) (fun _ => rfl)) (fr_4 hF1) h
      · have hn : ¬ cnt (sT σ j) 12 < 12 := fun z => by have := (nI_eq (b := 12) (show cnt (sT σ j) 12 < 2 ^ 31 by omega) (by omega)).mp c36; omega
        simp [sp_object, rD, rF, rS, rU, hDj, hclj, hej, hn] at hr
        subst hr
        first | refine g_aload_n O 0 d_Mo_object_39 rfl rfl ?_ | refine g_aload_nq O 0 d_Mo_object_39 rfl rfl ?_
        refine g_iconst (v := 3) O d_Mo_object_40 (by decide) ?_
        refine g_callv (N := 0) (mc := 0) (ms := 0) (av := [_]) O (Or.inl ⟨_, _, cw_Mo_fail⟩) pl_Mo (ci := 6) (q := q_Mo) rfl hM.km ml_Mo_84 im_Mo_fail se_Mo_fail rfl d_Mo_object_41 rfl (Nat.le_of_ble_eq_true rfl) (Nat.le_of_ble_eq_true rfl) (Nat.le_of_ble_eq_true rfl) (Nat.le_of_ble_eq_true rfl) ?_
        refine ct_Mo_fail hM.km ?_
        change cd_Go _ _ _ _ _ _ _ _ _ _
        refine g_goto O 56 d_Mo_object_44 (by decide) ?_
        refine g_iret O d_Mo_object_56 (Nat.le_of_ble_eq_true rfl) (Nat.le_of_ble_eq_true rfl) ?_
        first | exact MC.fail (c := 3) (by decide) hM hL cd_Fr.rf h | exact MC.fine hM1 (hL.cg rfl (fun _ => rfl) (fun _ => rfl) (fun _ => rfl) (fun _ => rfl)) (fr_4 hF1) h
    · have hej := cd_b_ne.mp c20
      simp [sp_object, rD, rF, rS, rU, hDj, hclj, hej] at hr
      subst hr
      first | refine g_aload_n O 0 d_Mo_object_23 rfl rfl ?_ | refine g_aload_nq O 0 d_Mo_object_23 rfl rfl ?_
      refine g_iconst (v := 2) O d_Mo_object_24 (by decide) ?_
      refine g_callv (N := 0) (mc := 0) (ms := 0) (av := [_]) O (Or.inl ⟨_, _, cw_Mo_fail⟩) pl_Mo (ci := 6) (q := q_Mo) rfl hM.km ml_Mo_84 im_Mo_fail se_Mo_fail rfl d_Mo_object_25 rfl (Nat.le_of_ble_eq_true rfl) (Nat.le_of_ble_eq_true rfl) (Nat.le_of_ble_eq_true rfl) (Nat.le_of_ble_eq_true rfl) ?_
      refine ct_Mo_fail hM.km ?_
      change cd_Go _ _ _ _ _ _ _ _ _ _
      refine g_iret O d_Mo_object_28 (Nat.le_of_ble_eq_true rfl) (Nat.le_of_ble_eq_true rfl) ?_
      exact MC.fail (c := 2) (by decide) hM hL cd_Fr.rf h
  · have hn := (cd_nbn _).mp c5
    simp [sp_object, rD, rF, rS, rU, hn] at hr
    subst hr
    first | refine g_aload_n O 0 d_Mo_object_8 rfl rfl ?_ | refine g_aload_nq O 0 d_Mo_object_8 rfl rfl ?_
    refine g_iconst (v := 1) O d_Mo_object_9 (by decide) ?_
    refine g_callv (N := 0) (mc := 0) (ms := 0) (av := [_]) O (Or.inl ⟨_, _, cw_Mo_fail⟩) pl_Mo (ci := 6) (q := q_Mo) rfl hM.km ml_Mo_84 im_Mo_fail se_Mo_fail rfl d_Mo_object_10 rfl (Nat.le_of_ble_eq_true rfl) (Nat.le_of_ble_eq_true rfl) (Nat.le_of_ble_eq_true rfl) (Nat.le_of_ble_eq_true rfl) ?_
    refine ct_Mo_fail hM.km ?_
    change cd_Go _ _ _ _ _ _ _ _ _ _
    refine g_iret O d_Mo_object_13 (Nat.le_of_ble_eq_true rfl) (Nat.le_of_ble_eq_true rfl) ?_
    exact MC.fail (c := 1) (by decide) hM hL cd_Fr.rf h
set_option maxHeartbeats 4000000 in
set_option maxRecDepth 100000 in
theorem om_set {G : cd_Gl} {l : Launch} {w : cd_Wd} {Q : cd_Out → cd_Wd → Prop} {m : Nat} {B : Nat → Nat} {σ : cd_S} {g : Nat → Bool} (hM : RepM w m B σ g) (hL : Rel σ g) (hI : cd_Iv σ) {d o f v : Int32} {r : cd_R} (hr : sp_set σ d o f v = r) (h : MC w m B r Q) : cd_Ct G l y_Mo_set 2 0 0 [.ref m, .int d, .int o, .int f, .int v] w Q := by
  refine cd_ofW cw_Mo_set (by simp [Value.category, cat_rf]) (Nat.le_of_ble_eq_true rfl) fun C O => ?_
  change cd_Go G l C _ 0 0 w 0 [some (.ref m), some (.int d), some (.int o), some (.int f), some (.int v), none, none] []
  first | refine g_aload_n O 0 d_Mo_set_0 rfl rfl ?_ | refine g_aload_nq O 0 d_Mo_set_0 rfl rfl ?_
  refine g_iload_n O 1 d_Mo_set_1 rfl rfl ?_
  refine g_callv (N := 0) (mc := 0) (ms := 0) (av := [_]) O (Or.inl ⟨_, _, cw_Mo_noDomain⟩) pl_Mo (ci := 6) (q := q_Mo) rfl hM.km ml_Mo_78 im_Mo_noDomain se_Mo_noDomain rfl d_Mo_set_2 rfl (Nat.le_of_ble_eq_true rfl) (Nat.le_of_ble_eq_true rfl) (Nat.le_of_ble_eq_true rfl) (Nat.le_of_ble_eq_true rfl) ?_
  refine ct_Mo_noDomain hM ?_
  change cd_Go _ _ _ _ _ _ _ _ _ _
  refine g_if_eq  O 14 d_Mo_set_5 (by decide) (fun c5 => ?_) (fun c5 => ?_)
  · have hDj := (cd_nb _).mp c5
    obtain ⟨j, hjj, rfl⟩ := isD_of hM.D6 hDj
    have h6j : j < 6 := Nat.lt_of_lt_of_le hjj hM.D6
    have hclj : (nI j).toNatClampNeg = j := nI_clamp (by omega)
    first | refine g_aload_n O 0 d_Mo_set_14 rfl rfl ?_ | refine g_aload_nq O 0 d_Mo_set_14 rfl rfl ?_
    refine g_getS O c_Mo 3 (by decide) rfl hM.km lk_Mo_19 d_Mo_set_15 (hM.a 3 (by omega) (by omega)).1 ?_
    refine g_iload_n O 1 d_Mo_set_18 rfl rfl ?_
    refine g_zaldV O 1 rfl rfl (hM.a 3 (by omega) (by omega)).2.1 (by (try simp only [ln_wI]); rw [(hM.a 3 (by omega) (by omega)).2.2]; exact ix_in (n := 6) (show j < 6 from by omega) (by omega)) d_Mo_set_19 (Eq.trans (congrArg (cd_I _ (1000 + 1) (B 3)) (cl_nI (j := j) (by omega))) (hM.E h6j)) ?_
    refine g_if_eq  O 29 d_Mo_set_20 (by decide) (fun c20 => ?_) (fun c20 => ?_)
    · have hej := cd_b_eq.mp c20
      first | refine g_aload_n O 0 d_Mo_set_29 rfl rfl ?_ | refine g_aload_nq O 0 d_Mo_set_29 rfl rfl ?_
      refine g_iload_n O 1 d_Mo_set_30 rfl rfl ?_
      refine g_iload_n O 2 d_Mo_set_31 rfl rfl ?_
      refine g_callv (N := 1) (mc := 0) (ms := 0) (av := [_, _]) O (Or.inl ⟨_, _, cw_Mo_none⟩) pl_Mo (ci := 6) (q := q_Mo) rfl hM.km ml_Mo_100 im_Mo_none se_Mo_none rfl d_Mo_set_32 rfl (Nat.le_of_ble_eq_true rfl) (Nat.le_of_ble_eq_true rfl) (Nat.le_of_ble_eq_true rfl) (Nat.le_of_ble_eq_true rfl) ?_
      refine ct_Mo_none hM h6j ?_
      change cd_Go _ _ _ _ _ _ _ _ _ _
      refine g_if_eq  O 44 d_Mo_set_35 (by decide) (fun c35 => ?_) (fun c35 => ?_)
      · have hO := (cd_nb _).mp c35
        obtain ⟨p, hpp, rfl, htp⟩ := hasO_of hO
        have hclp : (nI p).toNatClampNeg = p := nI_clamp (by omega)
        first | refine g_aload_n O 0 d_Mo_set_44 rfl rfl ?_ | refine g_aload_nq O 0 d_Mo_set_44 rfl rfl ?_
        refine g_iload_n O 3 d_Mo_set_45 rfl rfl ?_
        refine g_iconst (v := 3) O d_Mo_set_46 (by decide) ?_
        refine g_callv (N := 0) (mc := 0) (ms := 0) (av := [_, _]) O (Or.inl ⟨_, _, cw_Mo_out⟩) pl_Mo (ci := 6) (q := q_Mo) rfl hM.km ml_Mo_66 im_Mo_out se_Mo_out rfl d_Mo_set_47 rfl (Nat.le_of_ble_eq_true rfl) (Nat.le_of_ble_eq_true rfl) (Nat.le_of_ble_eq_true rfl) (Nat.le_of_ble_eq_true rfl) ?_
        refine ct_Mo_out ?_
        change cd_Go _ _ _ _ _ _ _ _ _ _
        refine g_if_eq  O 59 d_Mo_set_50 (by decide) (fun c50 => ?_) (fun c50 => ?_)
        · have hFi : isFi _ = true := (cd_nb _).mp c50
          obtain ⟨q, hq, rfl⟩ := isFi_of hFi
          have hclq : (nI q).toNatClampNeg = q := nI_clamp (by omega)
          refine g_iload_n O 1 d_Mo_set_59 rfl rfl ?_
          refine g_bipush (v := 12) O d_Mo_set_60 (by decide) ?_
          refine g_imul O d_Mo_set_62 ?_
          refine g_iload_n O 2 d_Mo_set_63 rfl rfl ?_
          refine g_iadd O d_Mo_set_64 ?_
          refine g_iconst (v := 3) O d_Mo_set_65 (by decide) ?_
          refine g_imul O d_Mo_set_66 ?_
          refine g_iload_n O 3 d_Mo_set_67 rfl rfl ?_
          refine g_iadd O d_Mo_set_68 ?_
          rw [m12, nI_add, m3, nI_add]
          have hfo := hI.2.2.1 j p q
          have hQ := hM.F h6j hpp hq
          refine g_istore O d_Mo_set_69 (Nat.le_of_ble_eq_true rfl) ?_
          first | refine g_aload_n O 0 d_Mo_set_71 rfl rfl ?_ | refine g_aload_nq O 0 d_Mo_set_71 rfl rfl ?_
          refine g_getS O c_Mo 5 (by decide) rfl hM.km lk_Mo_26 d_Mo_set_72 (hM.a 5 (by omega) (by omega)).1 ?_
          refine g_iload O d_Mo_set_75 rfl ?_
          refine g_ialdV O 0 rfl rfl (hM.a 5 (by omega) (by omega)).2.1 (by (try simp only [ln_wI]); rw [(hM.a 5 (by omega) (by omega)).2.2]; exact ix_in (n := 216) (show (j * 12 + p) * 3 + q < 216 from by omega) (by omega)) d_Mo_set_77 (Eq.trans (congrArg (cd_I _ (1000 + 0) (B 5)) (cl_nI (j := (j * 12 + p) * 3 + q) (by omega))) (hQ.1)) ?_
          refine g_if_ne  O 91 d_Mo_set_78 (by decide) (fun c78 => ?_) (fun c78 => ?_)
          · have e1 : (sF σ j p q).1 = 0 := fV_n hfo c78
            refine g_iconst (v := 0) O d_Mo_set_91 (by decide) ?_
            try rw [e1]
            refine g_istore O d_Mo_set_92 (Nat.le_of_ble_eq_true rfl) ?_
            first | refine g_aload_n O 0 d_Mo_set_94 rfl rfl ?_ | refine g_aload_nq O 0 d_Mo_set_94 rfl rfl ?_
            refine g_iload O d_Mo_set_95 rfl ?_
            refine g_iconst (v := 0) O d_Mo_set_97 (by decide) ?_
            refine g_iload O d_Mo_set_98 rfl ?_
            refine g_callv (N := 0) (mc := 0) (ms := 0) (av := [_, _, _]) O (Or.inl ⟨_, _, cw_Mo_put⟩) pl_Mo (ci := 6) (q := q_Mo) rfl hM.km ml_Mo_90 im_Mo_put se_Mo_put rfl d_Mo_set_100 rfl (Nat.le_of_ble_eq_true rfl) (Nat.le_of_ble_eq_true rfl) (Nat.le_of_ble_eq_true rfl) (Nat.le_of_ble_eq_true rfl) ?_
            refine ct_Mo_put (t := (v, none, none)) hM h6j hpp hq rfl rfl rfl (fun _ z => by cases z) (fun _ z => by cases z) (fun w1 hM1 hF1 => ?_)
            change cd_Go _ _ _ _ _ _ _ _ _ _
            first | refine g_aload_n O 0 d_Mo_set_103 rfl rfl ?_ | refine g_aload_nq O 0 d_Mo_set_103 rfl rfl ?_
            refine g_iload O d_Mo_set_104 rfl ?_
            refine g_callv (N := 0) (mc := 0) (ms := 0) (av := [_]) O (Or.inl ⟨_, _, cw_Mo_fine⟩) pl_Mo (ci := 6) (q := q_Mo) rfl hM1.km ml_Mo_87 im_Mo_fine se_Mo_fine rfl d_Mo_set_106 rfl (Nat.le_of_ble_eq_true rfl) (Nat.le_of_ble_eq_true rfl) (Nat.le_of_ble_eq_true rfl) (Nat.le_of_ble_eq_true rfl) ?_
            refine ct_Mo_fine hM1.km ?_
            change cd_Go _ _ _ _ _ _ _ _ _ _
            refine g_iret O d_Mo_set_109 (Nat.le_of_ble_eq_true rfl) (Nat.le_of_ble_eq_true rfl) ?_
            simp [sp_set, rD, rF, rS, rU, hDj, hclj, hej, hO, hclp, hFi, hclq] at hr
            subst hr
            refine MC.fine hM1 (hL.cg rfl (fun _ => rfl) (fun _ => rfl) (fun _ => rfl) (fun _ => rfl)) (fr_5 hF1) ?_
            first | exact h | (rw [e1] at h; exact h)
          · have e1 := fV_0 c78
            first | refine g_aload_n O 0 d_Mo_set_81 rfl rfl ?_ | refine g_aload_nq O 0 d_Mo_set_81 rfl rfl ?_
            refine g_getS O c_Mo 6 (by decide) rfl hM.km lk_Mo_30 d_Mo_set_82 (hM.a 6 (by omega) (by omega)).1 ?_
            refine g_iload O d_Mo_set_85 rfl ?_
            refine g_ialdV O 0 rfl rfl (hM.a 6 (by omega) (by omega)).2.1 (by (try simp only [ln_wI]); rw [(hM.a 6 (by omega) (by omega)).2.2]; exact ix_in (n := 216) (show (j * 12 + p) * 3 + q < 216 from by omega) (by omega)) d_Mo_set_87 (Eq.trans (congrArg (cd_I _ (1000 + 0) (B 6)) (cl_nI (j := (j * 12 + p) * 3 + q) (by omega))) (hQ.2)) ?_
            refine g_goto O 92 d_Mo_set_88 (by decide) ?_
            try rw [e1]
            refine g_istore O d_Mo_set_92 (Nat.le_of_ble_eq_true rfl) ?_
            first | refine g_aload_n O 0 d_Mo_set_94 rfl rfl ?_ | refine g_aload_nq O 0 d_Mo_set_94 rfl rfl ?_
            refine g_iload O d_Mo_set_95 rfl ?_
            refine g_iconst (v := 0) O d_Mo_set_97 (by decide) ?_
            refine g_iload O d_Mo_set_98 rfl ?_
            refine g_callv (N := 0) (mc := 0) (ms := 0) (av := [_, _, _]) O (Or.inl ⟨_, _, cw_Mo_put⟩) pl_Mo (ci := 6) (q := q_Mo) rfl hM.km ml_Mo_90 im_Mo_put se_Mo_put rfl d_Mo_set_100 rfl (Nat.le_of_ble_eq_true rfl) (Nat.le_of_ble_eq_true rfl) (Nat.le_of_ble_eq_true rfl) (Nat.le_of_ble_eq_true rfl) ?_
            refine ct_Mo_put (t := (v, none, none)) hM h6j hpp hq rfl rfl rfl (fun _ z => by cases z) (fun _ z => by cases z) (fun w1 hM1 hF1 => ?_)
            change cd_Go _ _ _ _ _ _ _ _ _ _
            first | refine g_aload_n O 0 d_Mo_set_103 rfl rfl ?_ | refine g_aload_nq O 0 d_Mo_set_103 rfl rfl ?_
            refine g_iload O d_Mo_set_104 rfl ?_
            refine g_callv (N := 0) (mc := 0) (ms := 0) (av := [_]) O (Or.inl ⟨_, _, cw_Mo_fine⟩) pl_Mo (ci := 6) (q := q_Mo) rfl hM1.km ml_Mo_87 im_Mo_fine se_Mo_fine rfl d_Mo_set_106 rfl (Nat.le_of_ble_eq_true rfl) (Nat.le_of_ble_eq_true rfl) (Nat.le_of_ble_eq_true rfl) (Nat.le_of_ble_eq_true rfl) ?_
            refine ct_Mo_fine hM1.km ?_
            change cd_Go _ _ _ _ _ _ _ _ _ _
            refine g_iret O d_Mo_set_109 (Nat.le_of_ble_eq_true rfl) (Nat.le_of_ble_eq_true rfl) ?_
            simp [sp_set, rD, rF, rS, rU, hDj, hclj, hej, hO, hclp, hFi, hclq] at hr
            subst hr
            refine MC.fine hM1 (hL.cg rfl (fun _ => rfl) (fun _ => rfl) (fun _ => rfl) (fun _ => rfl)) (fr_5 hF1) ?_
            first | exact h | (rw [e1] at h; exact h)
        · have hFi : isFi _ = false := (cd_nbn _).mp c50
          simp [sp_set, rD, rF, rS, rU, hDj, hclj, hej, hO, hclp, hFi] at hr
          subst hr
          first | refine g_aload_n O 0 d_Mo_set_53 rfl rfl ?_ | refine g_aload_nq O 0 d_Mo_set_53 rfl rfl ?_
          refine g_iconst (v := 4) O d_Mo_set_54 (by decide) ?_
          refine g_callv (N := 0) (mc := 0) (ms := 0) (av := [_]) O (Or.inl ⟨_, _, cw_Mo_fail⟩) pl_Mo (ci := 6) (q := q_Mo) rfl hM.km ml_Mo_84 im_Mo_fail se_Mo_fail rfl d_Mo_set_55 rfl (Nat.le_of_ble_eq_true rfl) (Nat.le_of_ble_eq_true rfl) (Nat.le_of_ble_eq_true rfl) (Nat.le_of_ble_eq_true rfl) ?_
          refine ct_Mo_fail hM.km ?_
          change cd_Go _ _ _ _ _ _ _ _ _ _
          refine g_iret O d_Mo_set_58 (Nat.le_of_ble_eq_true rfl) (Nat.le_of_ble_eq_true rfl) ?_
          exact MC.fail (c := 4) (by decide) hM hL cd_Fr.rf h
      · have hO := (cd_nbn _).mp c35
        simp [sp_set, rD, rF, rS, rU, hDj, hclj, hej, hO] at hr
        subst hr
        first | refine g_aload_n O 0 d_Mo_set_38 rfl rfl ?_ | refine g_aload_nq O 0 d_Mo_set_38 rfl rfl ?_
        refine g_iconst (v := 3) O d_Mo_set_39 (by decide) ?_
        refine g_callv (N := 0) (mc := 0) (ms := 0) (av := [_]) O (Or.inl ⟨_, _, cw_Mo_fail⟩) pl_Mo (ci := 6) (q := q_Mo) rfl hM.km ml_Mo_84 im_Mo_fail se_Mo_fail rfl d_Mo_set_40 rfl (Nat.le_of_ble_eq_true rfl) (Nat.le_of_ble_eq_true rfl) (Nat.le_of_ble_eq_true rfl) (Nat.le_of_ble_eq_true rfl) ?_
        refine ct_Mo_fail hM.km ?_
        change cd_Go _ _ _ _ _ _ _ _ _ _
        refine g_iret O d_Mo_set_43 (Nat.le_of_ble_eq_true rfl) (Nat.le_of_ble_eq_true rfl) ?_
        exact MC.fail (c := 3) (by decide) hM hL cd_Fr.rf h
    · have hej := cd_b_ne.mp c20
      simp [sp_set, rD, rF, rS, rU, hDj, hclj, hej] at hr
      subst hr
      first | refine g_aload_n O 0 d_Mo_set_23 rfl rfl ?_ | refine g_aload_nq O 0 d_Mo_set_23 rfl rfl ?_
      refine g_iconst (v := 2) O d_Mo_set_24 (by decide) ?_
      refine g_callv (N := 0) (mc := 0) (ms := 0) (av := [_]) O (Or.inl ⟨_, _, cw_Mo_fail⟩) pl_Mo (ci := 6) (q := q_Mo) rfl hM.km ml_Mo_84 im_Mo_fail se_Mo_fail rfl d_Mo_set_25 rfl (Nat.le_of_ble_eq_true rfl) (Nat.le_of_ble_eq_true rfl) (Nat.le_of_ble_eq_true rfl) (Nat.le_of_ble_eq_true rfl) ?_
      refine ct_Mo_fail hM.km ?_
      change cd_Go _ _ _ _ _ _ _ _ _ _
      refine g_iret O d_Mo_set_28 (Nat.le_of_ble_eq_true rfl) (Nat.le_of_ble_eq_true rfl) ?_
      exact MC.fail (c := 2) (by decide) hM hL cd_Fr.rf h
  · have hn := (cd_nbn _).mp c5
    simp [sp_set, rD, rF, rS, rU, hn] at hr
    subst hr
    first | refine g_aload_n O 0 d_Mo_set_8 rfl rfl ?_ | refine g_aload_nq O 0 d_Mo_set_8 rfl rfl ?_
    refine g_iconst (v := 1) O d_Mo_set_9 (by decide) ?_
    refine g_callv (N := 0) (mc := 0) (ms := 0) (av := [_]) O (Or.inl ⟨_, _, cw_Mo_fail⟩) pl_Mo (ci := 6) (q := q_Mo) rfl hM.km ml_Mo_84 im_Mo_fail se_Mo_fail rfl d_Mo_set_10 rfl (Nat.le_of_ble_eq_true rfl) (Nat.le_of_ble_eq_true rfl) (Nat.le_of_ble_eq_true rfl) (Nat.le_of_ble_eq_true rfl) ?_
    refine ct_Mo_fail hM.km ?_
    change cd_Go _ _ _ _ _ _ _ _ _ _
    refine g_iret O d_Mo_set_13 (Nat.le_of_ble_eq_true rfl) (Nat.le_of_ble_eq_true rfl) ?_
    exact MC.fail (c := 1) (by decide) hM hL cd_Fr.rf h
set_option maxHeartbeats 4000000 in
set_option maxRecDepth 100000 in
theorem om_link {G : cd_Gl} {l : Launch} {w : cd_Wd} {Q : cd_Out → cd_Wd → Prop} {m : Nat} {B : Nat → Nat} {σ : cd_S} {g : Nat → Bool} (hM : RepM w m B σ g) (hL : Rel σ g) (hI : cd_Iv σ) {d o f t : Int32} {r : cd_R} (hr : sp_link σ d o f t = r) (h : MC w m B r Q) : cd_Ct G l y_Mo_link 2 0 0 [.ref m, .int d, .int o, .int f, .int t] w Q := by
  refine cd_ofW cw_Mo_link (by simp [Value.category, cat_rf]) (Nat.le_of_ble_eq_true rfl) fun C O => ?_
  change cd_Go G l C _ 0 0 w 0 [some (.ref m), some (.int d), some (.int o), some (.int f), some (.int t)] []
  first | refine g_aload_n O 0 d_Mo_link_0 rfl rfl ?_ | refine g_aload_nq O 0 d_Mo_link_0 rfl rfl ?_
  refine g_iload_n O 1 d_Mo_link_1 rfl rfl ?_
  refine g_callv (N := 0) (mc := 0) (ms := 0) (av := [_]) O (Or.inl ⟨_, _, cw_Mo_noDomain⟩) pl_Mo (ci := 6) (q := q_Mo) rfl hM.km ml_Mo_78 im_Mo_noDomain se_Mo_noDomain rfl d_Mo_link_2 rfl (Nat.le_of_ble_eq_true rfl) (Nat.le_of_ble_eq_true rfl) (Nat.le_of_ble_eq_true rfl) (Nat.le_of_ble_eq_true rfl) ?_
  refine ct_Mo_noDomain hM ?_
  change cd_Go _ _ _ _ _ _ _ _ _ _
  refine g_if_eq  O 14 d_Mo_link_5 (by decide) (fun c5 => ?_) (fun c5 => ?_)
  · have hDj := (cd_nb _).mp c5
    obtain ⟨j, hjj, rfl⟩ := isD_of hM.D6 hDj
    have h6j : j < 6 := Nat.lt_of_lt_of_le hjj hM.D6
    have hclj : (nI j).toNatClampNeg = j := nI_clamp (by omega)
    first | refine g_aload_n O 0 d_Mo_link_14 rfl rfl ?_ | refine g_aload_nq O 0 d_Mo_link_14 rfl rfl ?_
    refine g_getS O c_Mo 3 (by decide) rfl hM.km lk_Mo_19 d_Mo_link_15 (hM.a 3 (by omega) (by omega)).1 ?_
    refine g_iload_n O 1 d_Mo_link_18 rfl rfl ?_
    refine g_zaldV O 1 rfl rfl (hM.a 3 (by omega) (by omega)).2.1 (by (try simp only [ln_wI]); rw [(hM.a 3 (by omega) (by omega)).2.2]; exact ix_in (n := 6) (show j < 6 from by omega) (by omega)) d_Mo_link_19 (Eq.trans (congrArg (cd_I _ (1000 + 1) (B 3)) (cl_nI (j := j) (by omega))) (hM.E h6j)) ?_
    refine g_if_eq  O 29 d_Mo_link_20 (by decide) (fun c20 => ?_) (fun c20 => ?_)
    · have hej := cd_b_eq.mp c20
      first | refine g_aload_n O 0 d_Mo_link_29 rfl rfl ?_ | refine g_aload_nq O 0 d_Mo_link_29 rfl rfl ?_
      refine g_iload_n O 1 d_Mo_link_30 rfl rfl ?_
      refine g_iload_n O 2 d_Mo_link_31 rfl rfl ?_
      refine g_callv (N := 1) (mc := 0) (ms := 0) (av := [_, _]) O (Or.inl ⟨_, _, cw_Mo_none⟩) pl_Mo (ci := 6) (q := q_Mo) rfl hM.km ml_Mo_100 im_Mo_none se_Mo_none rfl d_Mo_link_32 rfl (Nat.le_of_ble_eq_true rfl) (Nat.le_of_ble_eq_true rfl) (Nat.le_of_ble_eq_true rfl) (Nat.le_of_ble_eq_true rfl) ?_
      refine ct_Mo_none hM h6j ?_
      change cd_Go _ _ _ _ _ _ _ _ _ _
      refine g_if_eq  O 44 d_Mo_link_35 (by decide) (fun c35 => ?_) (fun c35 => ?_)
      · have hO := (cd_nb _).mp c35
        obtain ⟨p, hpp, rfl, htp⟩ := hasO_of hO
        have hclp : (nI p).toNatClampNeg = p := nI_clamp (by omega)
        first | refine g_aload_n O 0 d_Mo_link_44 rfl rfl ?_ | refine g_aload_nq O 0 d_Mo_link_44 rfl rfl ?_
        refine g_iload_n O 3 d_Mo_link_45 rfl rfl ?_
        refine g_iconst (v := 3) O d_Mo_link_46 (by decide) ?_
        refine g_callv (N := 0) (mc := 0) (ms := 0) (av := [_, _]) O (Or.inl ⟨_, _, cw_Mo_out⟩) pl_Mo (ci := 6) (q := q_Mo) rfl hM.km ml_Mo_66 im_Mo_out se_Mo_out rfl d_Mo_link_47 rfl (Nat.le_of_ble_eq_true rfl) (Nat.le_of_ble_eq_true rfl) (Nat.le_of_ble_eq_true rfl) (Nat.le_of_ble_eq_true rfl) ?_
        refine ct_Mo_out ?_
        change cd_Go _ _ _ _ _ _ _ _ _ _
        refine g_if_eq  O 59 d_Mo_link_50 (by decide) (fun c50 => ?_) (fun c50 => ?_)
        · have hFi : isFi _ = true := (cd_nb _).mp c50
          obtain ⟨q, hq, rfl⟩ := isFi_of hFi
          have hclq : (nI q).toNatClampNeg = q := nI_clamp (by omega)
          first | refine g_aload_n O 0 d_Mo_link_59 rfl rfl ?_ | refine g_aload_nq O 0 d_Mo_link_59 rfl rfl ?_
          refine g_iload_n O 1 d_Mo_link_60 rfl rfl ?_
          refine g_iload O d_Mo_link_61 rfl ?_
          refine g_callv (N := 1) (mc := 0) (ms := 0) (av := [_, _]) O (Or.inl ⟨_, _, cw_Mo_none⟩) pl_Mo (ci := 6) (q := q_Mo) rfl hM.km ml_Mo_100 im_Mo_none se_Mo_none rfl d_Mo_link_63 rfl (Nat.le_of_ble_eq_true rfl) (Nat.le_of_ble_eq_true rfl) (Nat.le_of_ble_eq_true rfl) (Nat.le_of_ble_eq_true rfl) ?_
          refine ct_Mo_none hM h6j ?_
          change cd_Go _ _ _ _ _ _ _ _ _ _
          refine g_if_eq  O 75 d_Mo_link_66 (by decide) (fun c66 => ?_) (fun c66 => ?_)
          · have hn := (cd_nb _).mp c66
            obtain ⟨t', ht', rfl, -⟩ := hasO_of hn
            have hclt : (nI t').toNatClampNeg = t' := nI_clamp (by omega)
            first | refine g_aload_n O 0 d_Mo_link_75 rfl rfl ?_ | refine g_aload_nq O 0 d_Mo_link_75 rfl rfl ?_
            refine g_iload_n O 1 d_Mo_link_76 rfl rfl ?_
            refine g_bipush (v := 12) O d_Mo_link_77 (by decide) ?_
            refine g_imul O d_Mo_link_79 ?_
            refine g_iload_n O 2 d_Mo_link_80 rfl rfl ?_
            refine g_iadd O d_Mo_link_81 ?_
            refine g_iconst (v := 3) O d_Mo_link_82 (by decide) ?_
            refine g_imul O d_Mo_link_83 ?_
            refine g_iload_n O 3 d_Mo_link_84 rfl rfl ?_
            refine g_iadd O d_Mo_link_85 ?_
            rw [m12, nI_add, m3, nI_add]
            refine g_iconst (v := 1) O d_Mo_link_86 (by decide) ?_
            refine g_iload O d_Mo_link_87 rfl ?_
            refine g_callv (N := 0) (mc := 0) (ms := 0) (av := [_, _, _]) O (Or.inl ⟨_, _, cw_Mo_put⟩) pl_Mo (ci := 6) (q := q_Mo) rfl hM.km ml_Mo_90 im_Mo_put se_Mo_put rfl d_Mo_link_89 rfl (Nat.le_of_ble_eq_true rfl) (Nat.le_of_ble_eq_true rfl) (Nat.le_of_ble_eq_true rfl) (Nat.le_of_ble_eq_true rfl) ?_
            refine ct_Mo_put (t := (0, some t', none)) hM h6j hpp hq rfl rfl rfl (fun _ z => by cases z; exact ht') (fun _ z => by cases z) (fun w1 hM1 hF1 => ?_)
            change cd_Go _ _ _ _ _ _ _ _ _ _
            first | refine g_aload_n O 0 d_Mo_link_92 rfl rfl ?_ | refine g_aload_nq O 0 d_Mo_link_92 rfl rfl ?_
            refine g_iconst (v := 0) O d_Mo_link_93 (by decide) ?_
            refine g_callv (N := 0) (mc := 0) (ms := 0) (av := [_]) O (Or.inl ⟨_, _, cw_Mo_fine⟩) pl_Mo (ci := 6) (q := q_Mo) rfl hM1.km ml_Mo_87 im_Mo_fine se_Mo_fine rfl d_Mo_link_94 rfl (Nat.le_of_ble_eq_true rfl) (Nat.le_of_ble_eq_true rfl) (Nat.le_of_ble_eq_true rfl) (Nat.le_of_ble_eq_true rfl) ?_
            refine ct_Mo_fine hM1.km ?_
            change cd_Go _ _ _ _ _ _ _ _ _ _
            refine g_iret O d_Mo_link_97 (Nat.le_of_ble_eq_true rfl) (Nat.le_of_ble_eq_true rfl) ?_
            simp [sp_link, rD, rF, rS, rU, hDj, hclj, hej, hO, hclp, hFi, hclq, hn, hclt] at hr
            subst hr
            exact MC.fine hM1 (hL.cg rfl (fun _ => rfl) (fun _ => rfl) (fun _ => rfl) (fun _ => rfl)) (fr_5 hF1) h
          · have hn := (cd_nbn _).mp c66
            simp [sp_link, rD, rF, rS, rU, hDj, hclj, hej, hO, hclp, hFi, hclq, hn] at hr
            subst hr
            first | refine g_aload_n O 0 d_Mo_link_69 rfl rfl ?_ | refine g_aload_nq O 0 d_Mo_link_69 rfl rfl ?_
            refine g_iconst (v := 3) O d_Mo_link_70 (by decide) ?_
            refine g_callv (N := 0) (mc := 0) (ms := 0) (av := [_]) O (Or.inl ⟨_, _, cw_Mo_fail⟩) pl_Mo (ci := 6) (q := q_Mo) rfl hM.km ml_Mo_84 im_Mo_fail se_Mo_fail rfl d_Mo_link_71 rfl (Nat.le_of_ble_eq_true rfl) (Nat.le_of_ble_eq_true rfl) (Nat.le_of_ble_eq_true rfl) (Nat.le_of_ble_eq_true rfl) ?_
            refine ct_Mo_fail hM.km ?_
            change cd_Go _ _ _ _ _ _ _ _ _ _
            refine g_iret O d_Mo_link_74 (Nat.le_of_ble_eq_true rfl) (Nat.le_of_ble_eq_true rfl) ?_
            exact MC.fail (c := 3) (by decide) hM hL cd_Fr.rf h
        · have hFi : isFi _ = false := (cd_nbn _).mp c50
          simp [sp_link, rD, rF, rS, rU, hDj, hclj, hej, hO, hclp, hFi] at hr
          subst hr
          first | refine g_aload_n O 0 d_Mo_link_53 rfl rfl ?_ | refine g_aload_nq O 0 d_Mo_link_53 rfl rfl ?_
          refine g_iconst (v := 4) O d_Mo_link_54 (by decide) ?_
          refine g_callv (N := 0) (mc := 0) (ms := 0) (av := [_]) O (Or.inl ⟨_, _, cw_Mo_fail⟩) pl_Mo (ci := 6) (q := q_Mo) rfl hM.km ml_Mo_84 im_Mo_fail se_Mo_fail rfl d_Mo_link_55 rfl (Nat.le_of_ble_eq_true rfl) (Nat.le_of_ble_eq_true rfl) (Nat.le_of_ble_eq_true rfl) (Nat.le_of_ble_eq_true rfl) ?_
          refine ct_Mo_fail hM.km ?_
          change cd_Go _ _ _ _ _ _ _ _ _ _
          refine g_iret O d_Mo_link_58 (Nat.le_of_ble_eq_true rfl) (Nat.le_of_ble_eq_true rfl) ?_
          exact MC.fail (c := 4) (by decide) hM hL cd_Fr.rf h
      · have hO := (cd_nbn _).mp c35
        simp [sp_link, rD, rF, rS, rU, hDj, hclj, hej, hO] at hr
        subst hr
        first | refine g_aload_n O 0 d_Mo_link_38 rfl rfl ?_ | refine g_aload_nq O 0 d_Mo_link_38 rfl rfl ?_
        refine g_iconst (v := 3) O d_Mo_link_39 (by decide) ?_
        refine g_callv (N := 0) (mc := 0) (ms := 0) (av := [_]) O (Or.inl ⟨_, _, cw_Mo_fail⟩) pl_Mo (ci := 6) (q := q_Mo) rfl hM.km ml_Mo_84 im_Mo_fail se_Mo_fail rfl d_Mo_link_40 rfl (Nat.le_of_ble_eq_true rfl) (Nat.le_of_ble_eq_true rfl) (Nat.le_of_ble_eq_true rfl) (Nat.le_of_ble_eq_true rfl) ?_
        refine ct_Mo_fail hM.km ?_
        change cd_Go _ _ _ _ _ _ _ _ _ _
        refine g_iret O d_Mo_link_43 (Nat.le_of_ble_eq_true rfl) (Nat.le_of_ble_eq_true rfl) ?_
        exact MC.fail (c := 3) (by decide) hM hL cd_Fr.rf h
    · have hej := cd_b_ne.mp c20
      simp [sp_link, rD, rF, rS, rU, hDj, hclj, hej] at hr
      subst hr
      first | refine g_aload_n O 0 d_Mo_link_23 rfl rfl ?_ | refine g_aload_nq O 0 d_Mo_link_23 rfl rfl ?_
      refine g_iconst (v := 2) O d_Mo_link_24 (by decide) ?_
      refine g_callv (N := 0) (mc := 0) (ms := 0) (av := [_]) O (Or.inl ⟨_, _, cw_Mo_fail⟩) pl_Mo (ci := 6) (q := q_Mo) rfl hM.km ml_Mo_84 im_Mo_fail se_Mo_fail rfl d_Mo_link_25 rfl (Nat.le_of_ble_eq_true rfl) (Nat.le_of_ble_eq_true rfl) (Nat.le_of_ble_eq_true rfl) (Nat.le_of_ble_eq_true rfl) ?_
      refine ct_Mo_fail hM.km ?_
      change cd_Go _ _ _ _ _ _ _ _ _ _
      refine g_iret O d_Mo_link_28 (Nat.le_of_ble_eq_true rfl) (Nat.le_of_ble_eq_true rfl) ?_
      exact MC.fail (c := 2) (by decide) hM hL cd_Fr.rf h
  · have hn := (cd_nbn _).mp c5
    simp [sp_link, rD, rF, rS, rU, hn] at hr
    subst hr
    first | refine g_aload_n O 0 d_Mo_link_8 rfl rfl ?_ | refine g_aload_nq O 0 d_Mo_link_8 rfl rfl ?_
    refine g_iconst (v := 1) O d_Mo_link_9 (by decide) ?_
    refine g_callv (N := 0) (mc := 0) (ms := 0) (av := [_]) O (Or.inl ⟨_, _, cw_Mo_fail⟩) pl_Mo (ci := 6) (q := q_Mo) rfl hM.km ml_Mo_84 im_Mo_fail se_Mo_fail rfl d_Mo_link_10 rfl (Nat.le_of_ble_eq_true rfl) (Nat.le_of_ble_eq_true rfl) (Nat.le_of_ble_eq_true rfl) (Nat.le_of_ble_eq_true rfl) ?_
    refine ct_Mo_fail hM.km ?_
    change cd_Go _ _ _ _ _ _ _ _ _ _
    refine g_iret O d_Mo_link_13 (Nat.le_of_ble_eq_true rfl) (Nat.le_of_ble_eq_true rfl) ?_
    exact MC.fail (c := 1) (by decide) hM hL cd_Fr.rf h
set_option maxHeartbeats 4000000 in
set_option maxRecDepth 100000 in
theorem om_hold {G : cd_Gl} {l : Launch} {w : cd_Wd} {Q : cd_Out → cd_Wd → Prop} {m : Nat} {B : Nat → Nat} {σ : cd_S} {g : Nat → Bool} (hM : RepM w m B σ g) (hL : Rel σ g) (hI : cd_Iv σ) {d o f s : Int32} {r : cd_R} (hr : sp_hold σ d o f s = r) (h : MC w m B r Q) : cd_Ct G l y_Mo_hold 2 0 0 [.ref m, .int d, .int o, .int f, .int s] w Q := by
  refine cd_ofW cw_Mo_hold (by simp [Value.category, cat_rf]) (Nat.le_of_ble_eq_true rfl) fun C O => ?_
  change cd_Go G l C _ 0 0 w 0 [some (.ref m), some (.int d), some (.int o), some (.int f), some (.int s)] []
  first | refine g_aload_n O 0 d_Mo_hold_0 rfl rfl ?_ | refine g_aload_nq O 0 d_Mo_hold_0 rfl rfl ?_
  refine g_iload_n O 1 d_Mo_hold_1 rfl rfl ?_
  refine g_callv (N := 0) (mc := 0) (ms := 0) (av := [_]) O (Or.inl ⟨_, _, cw_Mo_noDomain⟩) pl_Mo (ci := 6) (q := q_Mo) rfl hM.km ml_Mo_78 im_Mo_noDomain se_Mo_noDomain rfl d_Mo_hold_2 rfl (Nat.le_of_ble_eq_true rfl) (Nat.le_of_ble_eq_true rfl) (Nat.le_of_ble_eq_true rfl) (Nat.le_of_ble_eq_true rfl) ?_
  refine ct_Mo_noDomain hM ?_
  change cd_Go _ _ _ _ _ _ _ _ _ _
  refine g_if_eq  O 14 d_Mo_hold_5 (by decide) (fun c5 => ?_) (fun c5 => ?_)
  · have hDj := (cd_nb _).mp c5
    obtain ⟨j, hjj, rfl⟩ := isD_of hM.D6 hDj
    have h6j : j < 6 := Nat.lt_of_lt_of_le hjj hM.D6
    have hclj : (nI j).toNatClampNeg = j := nI_clamp (by omega)
    first | refine g_aload_n O 0 d_Mo_hold_14 rfl rfl ?_ | refine g_aload_nq O 0 d_Mo_hold_14 rfl rfl ?_
    refine g_getS O c_Mo 3 (by decide) rfl hM.km lk_Mo_19 d_Mo_hold_15 (hM.a 3 (by omega) (by omega)).1 ?_
    refine g_iload_n O 1 d_Mo_hold_18 rfl rfl ?_
    refine g_zaldV O 1 rfl rfl (hM.a 3 (by omega) (by omega)).2.1 (by (try simp only [ln_wI]); rw [(hM.a 3 (by omega) (by omega)).2.2]; exact ix_in (n := 6) (show j < 6 from by omega) (by omega)) d_Mo_hold_19 (Eq.trans (congrArg (cd_I _ (1000 + 1) (B 3)) (cl_nI (j := j) (by omega))) (hM.E h6j)) ?_
    refine g_if_eq  O 29 d_Mo_hold_20 (by decide) (fun c20 => ?_) (fun c20 => ?_)
    · have hej := cd_b_eq.mp c20
      first | refine g_aload_n O 0 d_Mo_hold_29 rfl rfl ?_ | refine g_aload_nq O 0 d_Mo_hold_29 rfl rfl ?_
      refine g_iload_n O 1 d_Mo_hold_30 rfl rfl ?_
      refine g_iload_n O 2 d_Mo_hold_31 rfl rfl ?_
      refine g_callv (N := 1) (mc := 0) (ms := 0) (av := [_, _]) O (Or.inl ⟨_, _, cw_Mo_none⟩) pl_Mo (ci := 6) (q := q_Mo) rfl hM.km ml_Mo_100 im_Mo_none se_Mo_none rfl d_Mo_hold_32 rfl (Nat.le_of_ble_eq_true rfl) (Nat.le_of_ble_eq_true rfl) (Nat.le_of_ble_eq_true rfl) (Nat.le_of_ble_eq_true rfl) ?_
      refine ct_Mo_none hM h6j ?_
      change cd_Go _ _ _ _ _ _ _ _ _ _
      refine g_if_eq  O 44 d_Mo_hold_35 (by decide) (fun c35 => ?_) (fun c35 => ?_)
      · have hO := (cd_nb _).mp c35
        obtain ⟨p, hpp, rfl, htp⟩ := hasO_of hO
        have hclp : (nI p).toNatClampNeg = p := nI_clamp (by omega)
        first | refine g_aload_n O 0 d_Mo_hold_44 rfl rfl ?_ | refine g_aload_nq O 0 d_Mo_hold_44 rfl rfl ?_
        refine g_iload_n O 3 d_Mo_hold_45 rfl rfl ?_
        refine g_iconst (v := 3) O d_Mo_hold_46 (by decide) ?_
        refine g_callv (N := 0) (mc := 0) (ms := 0) (av := [_, _]) O (Or.inl ⟨_, _, cw_Mo_out⟩) pl_Mo (ci := 6) (q := q_Mo) rfl hM.km ml_Mo_66 im_Mo_out se_Mo_out rfl d_Mo_hold_47 rfl (Nat.le_of_ble_eq_true rfl) (Nat.le_of_ble_eq_true rfl) (Nat.le_of_ble_eq_true rfl) (Nat.le_of_ble_eq_true rfl) ?_
        refine ct_Mo_out ?_
        change cd_Go _ _ _ _ _ _ _ _ _ _
        refine g_if_ne  O 64 d_Mo_hold_50 (by decide) (fun c50 => ?_) (fun c50 => ?_)
        · have hFi : isFi _ = false := (cd_nbn _).mp c50
          simp [sp_hold, rD, rF, rS, rU, hDj, hclj, hej, hO, hclp, hFi] at hr
          subst hr
          first | refine g_aload_n O 0 d_Mo_hold_64 rfl rfl ?_ | refine g_aload_nq O 0 d_Mo_hold_64 rfl rfl ?_
          refine g_iconst (v := 4) O d_Mo_hold_65 (by decide) ?_
          refine g_callv (N := 0) (mc := 0) (ms := 0) (av := [_]) O (Or.inl ⟨_, _, cw_Mo_fail⟩) pl_Mo (ci := 6) (q := q_Mo) rfl hM.km ml_Mo_84 im_Mo_fail se_Mo_fail rfl d_Mo_hold_66 rfl (Nat.le_of_ble_eq_true rfl) (Nat.le_of_ble_eq_true rfl) (Nat.le_of_ble_eq_true rfl) (Nat.le_of_ble_eq_true rfl) ?_
          refine ct_Mo_fail hM.km ?_
          change cd_Go _ _ _ _ _ _ _ _ _ _
          refine g_iret O d_Mo_hold_69 (Nat.le_of_ble_eq_true rfl) (Nat.le_of_ble_eq_true rfl) ?_
          exact MC.fail (c := 4) (by decide) hM hL cd_Fr.rf h
        · have hFi : isFi _ = true := (cd_nb _).mp c50
          obtain ⟨q, hq, rfl⟩ := isFi_of hFi
          have hclq : (nI q).toNatClampNeg = q := nI_clamp (by omega)
          first | refine g_aload_n O 0 d_Mo_hold_53 rfl rfl ?_ | refine g_aload_nq O 0 d_Mo_hold_53 rfl rfl ?_
          refine g_iload O d_Mo_hold_54 rfl ?_
          refine g_bipush (v := 8) O d_Mo_hold_56 (by decide) ?_
          refine g_callv (N := 0) (mc := 0) (ms := 0) (av := [_, _]) O (Or.inl ⟨_, _, cw_Mo_out⟩) pl_Mo (ci := 6) (q := q_Mo) rfl hM.km ml_Mo_66 im_Mo_out se_Mo_out rfl d_Mo_hold_58 rfl (Nat.le_of_ble_eq_true rfl) (Nat.le_of_ble_eq_true rfl) (Nat.le_of_ble_eq_true rfl) (Nat.le_of_ble_eq_true rfl) ?_
          refine ct_Mo_out ?_
          change cd_Go _ _ _ _ _ _ _ _ _ _
          refine g_if_eq  O 70 d_Mo_hold_61 (by decide) (fun c61 => ?_) (fun c61 => ?_)
          · have hSs' : isSl _ = true := (cd_nb _).mp c61
            obtain ⟨s', his', rfl⟩ := isSl_of hSs'
            have hcls' : (nI s').toNatClampNeg = s' := nI_clamp (by omega)
            first | refine g_aload_n O 0 d_Mo_hold_70 rfl rfl ?_ | refine g_aload_nq O 0 d_Mo_hold_70 rfl rfl ?_
            refine g_getS O c_Mo 7 (by decide) rfl hM.km lk_Mo_33 d_Mo_hold_71 (hM.a 7 (by omega) (by omega)).1 ?_
            refine g_iload_n O 1 d_Mo_hold_74 rfl rfl ?_
            refine g_bipush (v := 8) O d_Mo_hold_75 (by decide) ?_
            refine g_imul O d_Mo_hold_77 ?_
            refine g_iload O d_Mo_hold_78 rfl ?_
            refine g_iadd O d_Mo_hold_80 ?_
            rw [m8, nI_add]
            refine g_ialdV O 0 rfl rfl (hM.a 7 (by omega) (by omega)).2.1 (by (try simp only [ln_wI]); rw [(hM.a 7 (by omega) (by omega)).2.2]; exact ix_in (n := 48) (show j * 8 + s' < 48 from by omega) (by omega)) d_Mo_hold_81 (Eq.trans (congrArg (cd_I _ (1000 + 0) (B 7)) (cl_nI (j := j * 8 + s') (by omega))) (hM.S h6j his')) ?_
            refine g_if_ge  O 91 d_Mo_hold_82 (by decide) (fun c82 => ?_) (fun c82 => ?_)
            · obtain ⟨c, hs⟩ := sl_ge (fun c hc => Nat.lt_of_lt_of_le (hM.wf.1 j s' c hjj his' hc) hM.C40) c82
              have hc := hM.wf.1 j s' c hjj his' hs
              simp [sp_hold, rD, rF, rS, rU, hDj, hclj, hej, hO, hclp, hFi, hclq, hSs', hcls', hs] at hr
              subst hr
              first | refine g_aload_n O 0 d_Mo_hold_91 rfl rfl ?_ | refine g_aload_nq O 0 d_Mo_hold_91 rfl rfl ?_
              refine g_iload_n O 1 d_Mo_hold_92 rfl rfl ?_
              refine g_bipush (v := 12) O d_Mo_hold_93 (by decide) ?_
              refine g_imul O d_Mo_hold_95 ?_
              refine g_iload_n O 2 d_Mo_hold_96 rfl rfl ?_
              refine g_iadd O d_Mo_hold_97 ?_
              refine g_iconst (v := 3) O d_Mo_hold_98 (by decide) ?_
              refine g_imul O d_Mo_hold_99 ?_
              refine g_iload_n O 3 d_Mo_hold_100 rfl rfl ?_
              refine g_iadd O d_Mo_hold_101 ?_
              rw [m12, nI_add, m3, nI_add]
              refine g_iconst (v := 2) O d_Mo_hold_102 (by decide) ?_
              first | refine g_aload_n O 0 d_Mo_hold_103 rfl rfl ?_ | refine g_aload_nq O 0 d_Mo_hold_103 rfl rfl ?_
              refine g_getS O c_Mo 7 (by decide) rfl hM.km lk_Mo_33 d_Mo_hold_104 (hM.a 7 (by omega) (by omega)).1 ?_
              refine g_iload_n O 1 d_Mo_hold_107 rfl rfl ?_
              refine g_bipush (v := 8) O d_Mo_hold_108 (by decide) ?_
              refine g_imul O d_Mo_hold_110 ?_
              refine g_iload O d_Mo_hold_111 rfl ?_
              refine g_iadd O d_Mo_hold_113 ?_
              rw [m8, nI_add]
              refine g_ialdV O 0 rfl rfl (hM.a 7 (by omega) (by omega)).2.1 (by (try simp only [ln_wI]); rw [(hM.a 7 (by omega) (by omega)).2.2]; exact ix_in (n := 48) (show j * 8 + s' < 48 from by omega) (by omega)) d_Mo_hold_114 (Eq.trans (congrArg (cd_I _ (1000 + 0) (B 7)) (cl_nI (j := j * 8 + s') (by omega))) (((hM.S h6j his').trans (congrArg cd_l hs) : _ = nI c))) ?_
              refine g_callv (N := 0) (mc := 0) (ms := 0) (av := [_, _, _]) O (Or.inl ⟨_, _, cw_Mo_put⟩) pl_Mo (ci := 6) (q := q_Mo) rfl hM.km ml_Mo_90 im_Mo_put se_Mo_put rfl d_Mo_hold_115 rfl (Nat.le_of_ble_eq_true rfl) (Nat.le_of_ble_eq_true rfl) (Nat.le_of_ble_eq_true rfl) (Nat.le_of_ble_eq_true rfl) ?_
              refine ct_Mo_put (t := (0, none, some c)) hM h6j hpp hq rfl rfl rfl (fun _ z => by cases z) (fun _ z => by cases z; exact hc) (fun w1 hM1 hF1 => ?_)
              change cd_Go _ _ _ _ _ _ _ _ _ _
              first | refine g_aload_n O 0 d_Mo_hold_118 rfl rfl ?_ | refine g_aload_nq O 0 d_Mo_hold_118 rfl rfl ?_
              refine g_iconst (v := 0) O d_Mo_hold_119 (by decide) ?_
              refine g_callv (N := 0) (mc := 0) (ms := 0) (av := [_]) O (Or.inl ⟨_, _, cw_Mo_fine⟩) pl_Mo (ci := 6) (q := q_Mo) rfl hM1.km ml_Mo_87 im_Mo_fine se_Mo_fine rfl d_Mo_hold_120 rfl (Nat.le_of_ble_eq_true rfl) (Nat.le_of_ble_eq_true rfl) (Nat.le_of_ble_eq_true rfl) (Nat.le_of_ble_eq_true rfl) ?_
              refine ct_Mo_fine hM1.km ?_
              change cd_Go _ _ _ _ _ _ _ _ _ _
              refine g_iret O d_Mo_hold_123 (Nat.le_of_ble_eq_true rfl) (Nat.le_of_ble_eq_true rfl) ?_
              exact MC.fine hM1 (hL.cg rfl (fun _ => rfl) (fun _ => rfl) (fun _ => rfl) (fun _ => rfl)) (fr_5 hF1) h
            · have hs := sl_lt (fun c hc => Nat.lt_of_lt_of_le (hM.wf.1 j s' c hjj his' hc) hM.C40) c82
              simp [sp_hold, rD, rF, rS, rU, hDj, hclj, hej, hO, hclp, hFi, hclq, hSs', hcls', hs] at hr
              subst hr
              first | refine g_aload_n O 0 d_Mo_hold_85 rfl rfl ?_ | refine g_aload_nq O 0 d_Mo_hold_85 rfl rfl ?_
              refine g_iconst (v := 3) O d_Mo_hold_86 (by decide) ?_
              refine g_callv (N := 0) (mc := 0) (ms := 0) (av := [_]) O (Or.inl ⟨_, _, cw_Mo_fail⟩) pl_Mo (ci := 6) (q := q_Mo) rfl hM.km ml_Mo_84 im_Mo_fail se_Mo_fail rfl d_Mo_hold_87 rfl (Nat.le_of_ble_eq_true rfl) (Nat.le_of_ble_eq_true rfl) (Nat.le_of_ble_eq_true rfl) (Nat.le_of_ble_eq_true rfl) ?_
              refine ct_Mo_fail hM.km ?_
              change cd_Go _ _ _ _ _ _ _ _ _ _
              refine g_iret O d_Mo_hold_90 (Nat.le_of_ble_eq_true rfl) (Nat.le_of_ble_eq_true rfl) ?_
              exact MC.fail (c := 3) (by decide) hM hL cd_Fr.rf h
          · have hn : isSl _ = false := (cd_nbn _).mp c61
            simp [sp_hold, rD, rF, rS, rU, hDj, hclj, hej, hO, hclp, hFi, hclq, hn] at hr
            subst hr
            first | refine g_aload_n O 0 d_Mo_hold_64 rfl rfl ?_ | refine g_aload_nq O 0 d_Mo_hold_64 rfl rfl ?_
            refine g_iconst (v := 4) O d_Mo_hold_65 (by decide) ?_
            refine g_callv (N := 0) (mc := 0) (ms := 0) (av := [_]) O (Or.inl ⟨_, _, cw_Mo_fail⟩) pl_Mo (ci := 6) (q := q_Mo) rfl hM.km ml_Mo_84 im_Mo_fail se_Mo_fail rfl d_Mo_hold_66 rfl (Nat.le_of_ble_eq_true rfl) (Nat.le_of_ble_eq_true rfl) (Nat.le_of_ble_eq_true rfl) (Nat.le_of_ble_eq_true rfl) ?_
            refine ct_Mo_fail hM.km ?_
            change cd_Go _ _ _ _ _ _ _ _ _ _
            refine g_iret O d_Mo_hold_69 (Nat.le_of_ble_eq_true rfl) (Nat.le_of_ble_eq_true rfl) ?_
            exact MC.fail (c := 4) (by decide) hM hL cd_Fr.rf h
      · have hO := (cd_nbn _).mp c35
        simp [sp_hold, rD, rF, rS, rU, hDj, hclj, hej, hO] at hr
        subst hr
        first | refine g_aload_n O 0 d_Mo_hold_38 rfl rfl ?_ | refine g_aload_nq O 0 d_Mo_hold_38 rfl rfl ?_
        refine g_iconst (v := 3) O d_Mo_hold_39 (by decide) ?_
        refine g_callv (N := 0) (mc := 0) (ms := 0) (av := [_]) O (Or.inl ⟨_, _, cw_Mo_fail⟩) pl_Mo (ci := 6) (q := q_Mo) rfl hM.km ml_Mo_84 im_Mo_fail se_Mo_fail rfl d_Mo_hold_40 rfl (Nat.le_of_ble_eq_true rfl) (Nat.le_of_ble_eq_true rfl) (Nat.le_of_ble_eq_true rfl) (Nat.le_of_ble_eq_true rfl) ?_
        refine ct_Mo_fail hM.km ?_
        change cd_Go _ _ _ _ _ _ _ _ _ _
        refine g_iret O d_Mo_hold_43 (Nat.le_of_ble_eq_true rfl) (Nat.le_of_ble_eq_true rfl) ?_
        exact MC.fail (c := 3) (by decide) hM hL cd_Fr.rf h
    · have hej := cd_b_ne.mp c20
      simp [sp_hold, rD, rF, rS, rU, hDj, hclj, hej] at hr
      subst hr
      first | refine g_aload_n O 0 d_Mo_hold_23 rfl rfl ?_ | refine g_aload_nq O 0 d_Mo_hold_23 rfl rfl ?_
      refine g_iconst (v := 2) O d_Mo_hold_24 (by decide) ?_
      refine g_callv (N := 0) (mc := 0) (ms := 0) (av := [_]) O (Or.inl ⟨_, _, cw_Mo_fail⟩) pl_Mo (ci := 6) (q := q_Mo) rfl hM.km ml_Mo_84 im_Mo_fail se_Mo_fail rfl d_Mo_hold_25 rfl (Nat.le_of_ble_eq_true rfl) (Nat.le_of_ble_eq_true rfl) (Nat.le_of_ble_eq_true rfl) (Nat.le_of_ble_eq_true rfl) ?_
      refine ct_Mo_fail hM.km ?_
      change cd_Go _ _ _ _ _ _ _ _ _ _
      refine g_iret O d_Mo_hold_28 (Nat.le_of_ble_eq_true rfl) (Nat.le_of_ble_eq_true rfl) ?_
      exact MC.fail (c := 2) (by decide) hM hL cd_Fr.rf h
  · have hn := (cd_nbn _).mp c5
    simp [sp_hold, rD, rF, rS, rU, hn] at hr
    subst hr
    first | refine g_aload_n O 0 d_Mo_hold_8 rfl rfl ?_ | refine g_aload_nq O 0 d_Mo_hold_8 rfl rfl ?_
    refine g_iconst (v := 1) O d_Mo_hold_9 (by decide) ?_
    refine g_callv (N := 0) (mc := 0) (ms := 0) (av := [_]) O (Or.inl ⟨_, _, cw_Mo_fail⟩) pl_Mo (ci := 6) (q := q_Mo) rfl hM.km ml_Mo_84 im_Mo_fail se_Mo_fail rfl d_Mo_hold_10 rfl (Nat.le_of_ble_eq_true rfl) (Nat.le_of_ble_eq_true rfl) (Nat.le_of_ble_eq_true rfl) (Nat.le_of_ble_eq_true rfl) ?_
    refine ct_Mo_fail hM.km ?_
    change cd_Go _ _ _ _ _ _ _ _ _ _
    refine g_iret O d_Mo_hold_13 (Nat.le_of_ble_eq_true rfl) (Nat.le_of_ble_eq_true rfl) ?_
    exact MC.fail (c := 1) (by decide) hM hL cd_Fr.rf h
