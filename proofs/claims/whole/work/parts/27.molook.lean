theorem vinL {w : cd_Wd} {a L : Nat} {x : Int32} (e : cd_ln w a = L) (h : vp_in x L) : vp_in x (cd_ln w a) := by rw [e]; exact h
set_option maxHeartbeats 4000000 in
set_option maxRecDepth 100000 in
theorem om_holds {G : cd_Gl} {l : Launch} {w : cd_Wd} {Q : cd_Out → cd_Wd → Prop} {m : Nat} {B : Nat → Nat} {σ : cd_S} {g : Nat → Bool} (hM : RepM w m B σ g) (hL : Rel σ g) (hI : cd_Iv σ) {d o f : Int32} (h : ∀ w', RepM w' m B σ g → cd_Fr w w' (mow m B) → Q (.inl (some (.int (sv_holds σ d o f)))) w') : cd_Ct G l y_Mo_holds 3 0 0 [.ref m, .int d, .int o, .int f] w Q := by
  refine cd_ofW cw_Mo_holds (by simp [Value.category, cat_rf]) (Nat.le_of_ble_eq_true rfl) fun C O => ?_
  change cd_Go G l C _ 0 0 w 0 [some (.ref m), some (.int d), some (.int o), some (.int f), none] []
  first | refine g_aload_n O 0 d_Mo_holds_0 rfl rfl ?_ | refine g_aload_nq O 0 d_Mo_holds_0 rfl rfl ?_
  refine g_iconst (v := 0) O d_Mo_holds_1 (by decide) ?_
  refine g_putI O c_Mo 2 (by decide) rfl hM.km (Or.inl rfl) (Or.inl rfl) lk_Mo_16 d_Mo_holds_2 ?_
  have hM0 := hM
  replace hM : RepM (cd_wI w (32 * 6 + 2) m 0 0) m B σ g := rm_km hM (by decide) (by decide) (by decide) (by decide)
  replace h := h _ hM (cd_Fr.wI (Or.inl rfl))
  unfold sv_holds at h
  first | refine g_aload_n O 0 d_Mo_holds_5 rfl rfl ?_ | refine g_aload_nq O 0 d_Mo_holds_5 rfl rfl ?_
  refine g_iload_n O 1 d_Mo_holds_6 rfl rfl ?_
  refine g_callv (N := 0) (mc := 0) (ms := 0) (av := [_]) O (Or.inl ⟨_, _, cw_Mo_noDomain⟩) pl_Mo (ci := 6) (q := q_Mo) rfl hM.km ml_Mo_78 im_Mo_noDomain se_Mo_noDomain rfl d_Mo_holds_7 rfl (Nat.le_of_ble_eq_true rfl) (Nat.le_of_ble_eq_true rfl) (Nat.le_of_ble_eq_true rfl) (Nat.le_of_ble_eq_true rfl) ?_
  refine ct_Mo_noDomain hM ?_
  change cd_Go _ _ _ _ _ _ _ _ _ _
  refine g_if_ne  O 31 d_Mo_holds_10 (by decide) (fun c10 => ?_) (fun c10 => ?_)
  · have hn := (cd_nbn _).mp c10
    rw [if_neg (by simp [isFd, hn])] at h
    refine g_iconst (v := -1) O d_Mo_holds_31 (by decide) ?_
    refine g_iret O d_Mo_holds_32 (Nat.le_of_ble_eq_true rfl) (Nat.le_of_ble_eq_true rfl) ?_
    exact h
  · have hDj := (cd_nb _).mp c10
    obtain ⟨j, hjj, rfl⟩ := isD_of hM.D6 hDj
    have h6j : j < 6 := Nat.lt_of_lt_of_le hjj hM.D6
    have hclj : (nI j).toNatClampNeg = j := nI_clamp (by omega)
    first | refine g_aload_n O 0 d_Mo_holds_13 rfl rfl ?_ | refine g_aload_nq O 0 d_Mo_holds_13 rfl rfl ?_
    refine g_iload_n O 1 d_Mo_holds_14 rfl rfl ?_
    refine g_iload_n O 2 d_Mo_holds_15 rfl rfl ?_
    refine g_callv (N := 1) (mc := 0) (ms := 0) (av := [_, _]) O (Or.inl ⟨_, _, cw_Mo_none⟩) pl_Mo (ci := 6) (q := q_Mo) rfl hM.km ml_Mo_100 im_Mo_none se_Mo_none rfl d_Mo_holds_16 rfl (Nat.le_of_ble_eq_true rfl) (Nat.le_of_ble_eq_true rfl) (Nat.le_of_ble_eq_true rfl) (Nat.le_of_ble_eq_true rfl) ?_
    refine ct_Mo_none hM h6j ?_
    change cd_Go _ _ _ _ _ _ _ _ _ _
    refine g_if_ne  O 31 d_Mo_holds_19 (by decide) (fun c19 => ?_) (fun c19 => ?_)
    · have hO := (cd_nbn _).mp c19
      rw [if_neg (by simp [isFd, hclj, hO])] at h
      refine g_iconst (v := -1) O d_Mo_holds_31 (by decide) ?_
      refine g_iret O d_Mo_holds_32 (Nat.le_of_ble_eq_true rfl) (Nat.le_of_ble_eq_true rfl) ?_
      exact h
    · have hO := (cd_nb _).mp c19
      obtain ⟨p, hpp, rfl, htp⟩ := hasO_of hO
      have hclp : (nI p).toNatClampNeg = p := nI_clamp (by omega)
      first | refine g_aload_n O 0 d_Mo_holds_22 rfl rfl ?_ | refine g_aload_nq O 0 d_Mo_holds_22 rfl rfl ?_
      refine g_iload_n O 3 d_Mo_holds_23 rfl rfl ?_
      refine g_iconst (v := 3) O d_Mo_holds_24 (by decide) ?_
      refine g_callv (N := 0) (mc := 0) (ms := 0) (av := [_, _]) O (Or.inl ⟨_, _, cw_Mo_out⟩) pl_Mo (ci := 6) (q := q_Mo) rfl hM.km ml_Mo_66 im_Mo_out se_Mo_out rfl d_Mo_holds_25 rfl (Nat.le_of_ble_eq_true rfl) (Nat.le_of_ble_eq_true rfl) (Nat.le_of_ble_eq_true rfl) (Nat.le_of_ble_eq_true rfl) ?_
      refine ct_Mo_out ?_
      change cd_Go _ _ _ _ _ _ _ _ _ _
      refine g_if_eq  O 33 d_Mo_holds_28 (by decide) (fun c28 => ?_) (fun c28 => ?_)
      · have hFi : isFi _ = true := (cd_nb _).mp c28
        obtain ⟨q, hq, rfl⟩ := isFi_of hFi
        have hclq : (nI q).toNatClampNeg = q := nI_clamp (by omega)
        have hfo := hI.2.2.1 j p q
        rw [if_pos (by simp [isFd, hDj, hclj, hO, hFi]), hclj, hclp, hclq] at h
        refine g_iload_n O 1 d_Mo_holds_33 rfl rfl ?_
        refine g_bipush (v := 12) O d_Mo_holds_34 (by decide) ?_
        refine g_imul O d_Mo_holds_36 ?_
        refine g_iload_n O 2 d_Mo_holds_37 rfl rfl ?_
        refine g_iadd O d_Mo_holds_38 ?_
        refine g_iconst (v := 3) O d_Mo_holds_39 (by decide) ?_
        refine g_imul O d_Mo_holds_40 ?_
        refine g_iload_n O 3 d_Mo_holds_41 rfl rfl ?_
        refine g_iadd O d_Mo_holds_42 ?_
        rw [m12, nI_add, m3, nI_add]
        have hQ := hM.F h6j hpp hq
        have hcw := fun z => hM.wf.2.1 j p q z hjj hpp hq
        generalize sF σ j p q = t at h hfo hQ hcw
        obtain ⟨nm, lk, cp⟩ := t
        simp only at hcw
        refine g_istore O d_Mo_holds_43 (Nat.le_of_ble_eq_true rfl) ?_
        first | refine g_aload_n O 0 d_Mo_holds_45 rfl rfl ?_ | refine g_aload_nq O 0 d_Mo_holds_45 rfl rfl ?_
        refine g_getS O c_Mo 5 (by decide) rfl hM.km lk_Mo_26 d_Mo_holds_46 (hM.a 5 (by omega) (by omega)).1 ?_
        refine g_iload O d_Mo_holds_49 rfl ?_
        refine g_ialdV O 0 rfl rfl (hM.a 5 (by omega) (by omega)).2.1 (vinL (hM.a 5 (by omega) (by omega)).2.2 (ix_in (n := 216) (show (j * 12 + p) * 3 + q < 216 from by omega) (by omega))) d_Mo_holds_51 (Eq.trans (congrArg (cd_I _ (1000 + 0) (B 5)) (cl_nI (j := (j * 12 + p) * 3 + q) (by omega))) (hQ.1)) ?_
        refine g_iconst (v := 2) O d_Mo_holds_52 (by decide) ?_
        refine g_icmp_ge  O 66 d_Mo_holds_53 (by decide) (fun c53 => ?_) (fun c53 => ?_)
        · obtain ⟨c, hcp⟩ : ∃ c, cp = some c := by
            cases cp with
            | some c => exact ⟨c, rfl⟩
            | none => cases lk <;> first | exact absurd c53 (show ¬ (2 : Int32) ≤ 0 from by decide) | exact absurd c53 (show ¬ (2 : Int32) ≤ 1 from by decide)
          subst hcp
          have hc := hcw c rfl
          have hfv : fV (nm, lk, some c) = nI c := by cases lk <;> rfl
          rw [hfv] at hQ
          first | refine g_aload_n O 0 d_Mo_holds_66 rfl rfl ?_ | refine g_aload_nq O 0 d_Mo_holds_66 rfl rfl ?_
          first | refine g_aload_n O 0 d_Mo_holds_67 rfl rfl ?_ | refine g_aload_nq O 0 d_Mo_holds_67 rfl rfl ?_
          refine g_getS O c_Mo 6 (by decide) rfl hM.km lk_Mo_30 d_Mo_holds_68 (hM.a 6 (by omega) (by omega)).1 ?_
          refine g_iload O d_Mo_holds_71 rfl ?_
          refine g_ialdV O 0 rfl rfl (hM.a 6 (by omega) (by omega)).2.1 (vinL (hM.a 6 (by omega) (by omega)).2.2 (ix_in (n := 216) (show (j * 12 + p) * 3 + q < 216 from by omega) (by omega))) d_Mo_holds_73 (Eq.trans (congrArg (cd_I _ (1000 + 0) (B 6)) (cl_nI (j := (j * 12 + p) * 3 + q) (by omega))) (hQ.2)) ?_
          refine g_callv (N := 1) (mc := 0) (ms := 0) (av := [_]) O (Or.inl ⟨_, _, cw_Mo_dead⟩) pl_Mo (ci := 6) (q := q_Mo) rfl hM.km ml_Mo_74 im_Mo_dead se_Mo_dead rfl d_Mo_holds_74 rfl (Nat.le_of_ble_eq_true rfl) (Nat.le_of_ble_eq_true rfl) (Nat.le_of_ble_eq_true rfl) (Nat.le_of_ble_eq_true rfl) ?_
          refine ct_Mo_dead hM hc ?_
          rw [← hL.1 c hc]
          change cd_Go _ _ _ _ _ _ _ _ _ _
          refine g_if_eq  O 84 d_Mo_holds_77 (by decide) (fun c77 => ?_) (fun c77 => ?_)
          · try simp only at h
            rw [if_neg (by rw [cd_b_eq.mp c77]; decide)] at h
            refine g_iconst (v := 2) O d_Mo_holds_84 (by decide) ?_
            refine g_iret O d_Mo_holds_85 (Nat.le_of_ble_eq_true rfl) (Nat.le_of_ble_eq_true rfl) ?_
            first | exact h | (cases lk <;> exact h)
          · try simp only at h
            rw [if_pos (cd_b_ne.mp c77)] at h
            refine g_iconst (v := 3) O d_Mo_holds_80 (by decide) ?_
            refine g_goto O 85 d_Mo_holds_81 (by decide) ?_
            refine g_iret O d_Mo_holds_85 (Nat.le_of_ble_eq_true rfl) (Nat.le_of_ble_eq_true rfl) ?_
            first | exact h | (cases lk <;> exact h)
        · have hcp : cp = none := by
            cases cp with
            | none => rfl
            | some c => cases lk <;> exact absurd (show (2 : Int32) ≤ 2 from by decide) c53
          subst hcp
          first | refine g_aload_n O 0 d_Mo_holds_56 rfl rfl ?_ | refine g_aload_nq O 0 d_Mo_holds_56 rfl rfl ?_
          refine g_getS O c_Mo 5 (by decide) rfl hM.km lk_Mo_26 d_Mo_holds_57 (hM.a 5 (by omega) (by omega)).1 ?_
          refine g_iload O d_Mo_holds_60 rfl ?_
          refine g_ialdV O 0 rfl rfl (hM.a 5 (by omega) (by omega)).2.1 (vinL (hM.a 5 (by omega) (by omega)).2.2 (ix_in (n := 216) (show (j * 12 + p) * 3 + q < 216 from by omega) (by omega))) d_Mo_holds_62 (Eq.trans (congrArg (cd_I _ (1000 + 0) (B 5)) (cl_nI (j := (j * 12 + p) * 3 + q) (by omega))) (hQ.1)) ?_
          refine g_goto O 85 d_Mo_holds_63 (by decide) ?_
          refine g_iret O d_Mo_holds_85 (Nat.le_of_ble_eq_true rfl) (Nat.le_of_ble_eq_true rfl) ?_
          first | exact h | (cases lk <;> exact h)
      · have hFi : isFi _ = false := (cd_nbn _).mp c28
        rw [if_neg (by simp [isFd, hFi])] at h
        refine g_iconst (v := -1) O d_Mo_holds_31 (by decide) ?_
        refine g_iret O d_Mo_holds_32 (Nat.le_of_ble_eq_true rfl) (Nat.le_of_ble_eq_true rfl) ?_
        exact h
set_option maxHeartbeats 4000000 in
set_option maxRecDepth 100000 in
theorem om_linked {G : cd_Gl} {l : Launch} {w : cd_Wd} {Q : cd_Out → cd_Wd → Prop} {m : Nat} {B : Nat → Nat} {σ : cd_S} {g : Nat → Bool} (hM : RepM w m B σ g) (hL : Rel σ g) (hI : cd_Iv σ) {d o f : Int32} (h : ∀ w', RepM w' m B σ g → cd_Fr w w' (mow m B) → Q (.inl (some (.int (sv_linked σ d o f)))) w') : cd_Ct G l y_Mo_linked 3 0 0 [.ref m, .int d, .int o, .int f] w Q := by
  refine cd_ofW cw_Mo_linked (by simp [Value.category, cat_rf]) (Nat.le_of_ble_eq_true rfl) fun C O => ?_
  change cd_Go G l C _ 0 0 w 0 [some (.ref m), some (.int d), some (.int o), some (.int f), none] []
  first | refine g_aload_n O 0 d_Mo_linked_0 rfl rfl ?_ | refine g_aload_nq O 0 d_Mo_linked_0 rfl rfl ?_
  refine g_iconst (v := 0) O d_Mo_linked_1 (by decide) ?_
  refine g_putI O c_Mo 2 (by decide) rfl hM.km (Or.inl rfl) (Or.inl rfl) lk_Mo_16 d_Mo_linked_2 ?_
  have hM0 := hM
  replace hM : RepM (cd_wI w (32 * 6 + 2) m 0 0) m B σ g := rm_km hM (by decide) (by decide) (by decide) (by decide)
  replace h := h _ hM (cd_Fr.wI (Or.inl rfl))
  unfold sv_linked at h
  first | refine g_aload_n O 0 d_Mo_linked_5 rfl rfl ?_ | refine g_aload_nq O 0 d_Mo_linked_5 rfl rfl ?_
  refine g_iload_n O 1 d_Mo_linked_6 rfl rfl ?_
  refine g_callv (N := 0) (mc := 0) (ms := 0) (av := [_]) O (Or.inl ⟨_, _, cw_Mo_noDomain⟩) pl_Mo (ci := 6) (q := q_Mo) rfl hM.km ml_Mo_78 im_Mo_noDomain se_Mo_noDomain rfl d_Mo_linked_7 rfl (Nat.le_of_ble_eq_true rfl) (Nat.le_of_ble_eq_true rfl) (Nat.le_of_ble_eq_true rfl) (Nat.le_of_ble_eq_true rfl) ?_
  refine ct_Mo_noDomain hM ?_
  change cd_Go _ _ _ _ _ _ _ _ _ _
  refine g_if_ne  O 31 d_Mo_linked_10 (by decide) (fun c10 => ?_) (fun c10 => ?_)
  · have hn := (cd_nbn _).mp c10
    rw [if_neg (by simp [isFd, hn])] at h
    refine g_iconst (v := -1) O d_Mo_linked_31 (by decide) ?_
    refine g_iret O d_Mo_linked_32 (Nat.le_of_ble_eq_true rfl) (Nat.le_of_ble_eq_true rfl) ?_
    exact h
  · have hDj := (cd_nb _).mp c10
    obtain ⟨j, hjj, rfl⟩ := isD_of hM.D6 hDj
    have h6j : j < 6 := Nat.lt_of_lt_of_le hjj hM.D6
    have hclj : (nI j).toNatClampNeg = j := nI_clamp (by omega)
    first | refine g_aload_n O 0 d_Mo_linked_13 rfl rfl ?_ | refine g_aload_nq O 0 d_Mo_linked_13 rfl rfl ?_
    refine g_iload_n O 1 d_Mo_linked_14 rfl rfl ?_
    refine g_iload_n O 2 d_Mo_linked_15 rfl rfl ?_
    refine g_callv (N := 1) (mc := 0) (ms := 0) (av := [_, _]) O (Or.inl ⟨_, _, cw_Mo_none⟩) pl_Mo (ci := 6) (q := q_Mo) rfl hM.km ml_Mo_100 im_Mo_none se_Mo_none rfl d_Mo_linked_16 rfl (Nat.le_of_ble_eq_true rfl) (Nat.le_of_ble_eq_true rfl) (Nat.le_of_ble_eq_true rfl) (Nat.le_of_ble_eq_true rfl) ?_
    refine ct_Mo_none hM h6j ?_
    change cd_Go _ _ _ _ _ _ _ _ _ _
    refine g_if_ne  O 31 d_Mo_linked_19 (by decide) (fun c19 => ?_) (fun c19 => ?_)
    · have hO := (cd_nbn _).mp c19
      rw [if_neg (by simp [isFd, hclj, hO])] at h
      refine g_iconst (v := -1) O d_Mo_linked_31 (by decide) ?_
      refine g_iret O d_Mo_linked_32 (Nat.le_of_ble_eq_true rfl) (Nat.le_of_ble_eq_true rfl) ?_
      exact h
    · have hO := (cd_nb _).mp c19
      obtain ⟨p, hpp, rfl, htp⟩ := hasO_of hO
      have hclp : (nI p).toNatClampNeg = p := nI_clamp (by omega)
      first | refine g_aload_n O 0 d_Mo_linked_22 rfl rfl ?_ | refine g_aload_nq O 0 d_Mo_linked_22 rfl rfl ?_
      refine g_iload_n O 3 d_Mo_linked_23 rfl rfl ?_
      refine g_iconst (v := 3) O d_Mo_linked_24 (by decide) ?_
      refine g_callv (N := 0) (mc := 0) (ms := 0) (av := [_, _]) O (Or.inl ⟨_, _, cw_Mo_out⟩) pl_Mo (ci := 6) (q := q_Mo) rfl hM.km ml_Mo_66 im_Mo_out se_Mo_out rfl d_Mo_linked_25 rfl (Nat.le_of_ble_eq_true rfl) (Nat.le_of_ble_eq_true rfl) (Nat.le_of_ble_eq_true rfl) (Nat.le_of_ble_eq_true rfl) ?_
      refine ct_Mo_out ?_
      change cd_Go _ _ _ _ _ _ _ _ _ _
      refine g_if_eq  O 33 d_Mo_linked_28 (by decide) (fun c28 => ?_) (fun c28 => ?_)
      · have hFi : isFi _ = true := (cd_nb _).mp c28
        obtain ⟨q, hq, rfl⟩ := isFi_of hFi
        have hclq : (nI q).toNatClampNeg = q := nI_clamp (by omega)
        have hfo := hI.2.2.1 j p q
        rw [if_pos (by simp [isFd, hDj, hclj, hO, hFi]), hclj, hclp, hclq] at h
        refine g_iload_n O 1 d_Mo_linked_33 rfl rfl ?_
        refine g_bipush (v := 12) O d_Mo_linked_34 (by decide) ?_
        refine g_imul O d_Mo_linked_36 ?_
        refine g_iload_n O 2 d_Mo_linked_37 rfl rfl ?_
        refine g_iadd O d_Mo_linked_38 ?_
        refine g_iconst (v := 3) O d_Mo_linked_39 (by decide) ?_
        refine g_imul O d_Mo_linked_40 ?_
        refine g_iload_n O 3 d_Mo_linked_41 rfl rfl ?_
        refine g_iadd O d_Mo_linked_42 ?_
        rw [m12, nI_add, m3, nI_add]
        have hQ := hM.F h6j hpp hq
        have hcw := fun z => hM.wf.2.1 j p q z hjj hpp hq
        generalize sF σ j p q = t at h hfo hQ hcw
        obtain ⟨nm, lk, cp⟩ := t
        simp only at hcw
        refine g_istore O d_Mo_linked_43 (Nat.le_of_ble_eq_true rfl) ?_
        first | refine g_aload_n O 0 d_Mo_linked_45 rfl rfl ?_ | refine g_aload_nq O 0 d_Mo_linked_45 rfl rfl ?_
        refine g_getS O c_Mo 5 (by decide) rfl hM.km lk_Mo_26 d_Mo_linked_46 (hM.a 5 (by omega) (by omega)).1 ?_
        refine g_iload O d_Mo_linked_49 rfl ?_
        refine g_ialdV O 0 rfl rfl (hM.a 5 (by omega) (by omega)).2.1 (vinL (hM.a 5 (by omega) (by omega)).2.2 (ix_in (n := 216) (show (j * 12 + p) * 3 + q < 216 from by omega) (by omega))) d_Mo_linked_51 (Eq.trans (congrArg (cd_I _ (1000 + 0) (B 5)) (cl_nI (j := (j * 12 + p) * 3 + q) (by omega))) (hQ.1)) ?_
        refine g_iconst (v := 1) O d_Mo_linked_52 (by decide) ?_
        refine g_icmp_ne  O 66 d_Mo_linked_53 (by decide) (fun c53 => ?_) (fun c53 => ?_)
        · have hl := fS_n1 hfo c53
          simp only at hl
          subst hl
          refine g_iconst (v := -1) O d_Mo_linked_66 (by decide) ?_
          refine g_iret O d_Mo_linked_67 (Nat.le_of_ble_eq_true rfl) (Nat.le_of_ble_eq_true rfl) ?_
          exact h
        · obtain ⟨z, hz⟩ := fS_1 hfo c53
          simp only [Prod.mk.injEq] at hz
          obtain ⟨rfl, rfl, rfl⟩ := hz
          first | refine g_aload_n O 0 d_Mo_linked_56 rfl rfl ?_ | refine g_aload_nq O 0 d_Mo_linked_56 rfl rfl ?_
          refine g_getS O c_Mo 6 (by decide) rfl hM.km lk_Mo_30 d_Mo_linked_57 (hM.a 6 (by omega) (by omega)).1 ?_
          refine g_iload O d_Mo_linked_60 rfl ?_
          refine g_ialdV O 0 rfl rfl (hM.a 6 (by omega) (by omega)).2.1 (vinL (hM.a 6 (by omega) (by omega)).2.2 (ix_in (n := 216) (show (j * 12 + p) * 3 + q < 216 from by omega) (by omega))) d_Mo_linked_62 (Eq.trans (congrArg (cd_I _ (1000 + 0) (B 6)) (cl_nI (j := (j * 12 + p) * 3 + q) (by omega))) (hQ.2)) ?_
          refine g_goto O 67 d_Mo_linked_63 (by decide) ?_
          refine g_iret O d_Mo_linked_67 (Nat.le_of_ble_eq_true rfl) (Nat.le_of_ble_eq_true rfl) ?_
          exact h
      · have hFi : isFi _ = false := (cd_nbn _).mp c28
        rw [if_neg (by simp [isFd, hFi])] at h
        refine g_iconst (v := -1) O d_Mo_linked_31 (by decide) ?_
        refine g_iret O d_Mo_linked_32 (Nat.le_of_ble_eq_true rfl) (Nat.le_of_ble_eq_true rfl) ?_
        exact h
set_option maxHeartbeats 4000000 in
set_option maxRecDepth 100000 in
theorem om_slot {G : cd_Gl} {l : Launch} {w : cd_Wd} {Q : cd_Out → cd_Wd → Prop} {m : Nat} {B : Nat → Nat} {σ : cd_S} {g : Nat → Bool} (hM : RepM w m B σ g) (hL : Rel σ g) (hI : cd_Iv σ) {d s : Int32} (h : ∀ w', RepM w' m B σ g → cd_Fr w w' (mow m B) → Q (.inl (some (.int (sv_slot σ d s)))) w') : cd_Ct G l y_Mo_slot 3 0 0 [.ref m, .int d, .int s] w Q := by
  refine cd_ofW cw_Mo_slot (by simp [Value.category, cat_rf]) (Nat.le_of_ble_eq_true rfl) fun C O => ?_
  change cd_Go G l C _ 0 0 w 0 [some (.ref m), some (.int d), some (.int s), none] []
  first | refine g_aload_n O 0 d_Mo_slot_0 rfl rfl ?_ | refine g_aload_nq O 0 d_Mo_slot_0 rfl rfl ?_
  refine g_iconst (v := 0) O d_Mo_slot_1 (by decide) ?_
  refine g_putI O c_Mo 2 (by decide) rfl hM.km (Or.inl rfl) (Or.inl rfl) lk_Mo_16 d_Mo_slot_2 ?_
  have hM0 := hM
  replace hM : RepM (cd_wI w (32 * 6 + 2) m 0 0) m B σ g := rm_km hM (by decide) (by decide) (by decide) (by decide)
  replace h := h _ hM (cd_Fr.wI (Or.inl rfl))
  unfold sv_slot at h
  first | refine g_aload_n O 0 d_Mo_slot_5 rfl rfl ?_ | refine g_aload_nq O 0 d_Mo_slot_5 rfl rfl ?_
  refine g_iload_n O 1 d_Mo_slot_6 rfl rfl ?_
  refine g_callv (N := 0) (mc := 0) (ms := 0) (av := [_]) O (Or.inl ⟨_, _, cw_Mo_noDomain⟩) pl_Mo (ci := 6) (q := q_Mo) rfl hM.km ml_Mo_78 im_Mo_noDomain se_Mo_noDomain rfl d_Mo_slot_7 rfl (Nat.le_of_ble_eq_true rfl) (Nat.le_of_ble_eq_true rfl) (Nat.le_of_ble_eq_true rfl) (Nat.le_of_ble_eq_true rfl) ?_
  refine ct_Mo_noDomain hM ?_
  change cd_Go _ _ _ _ _ _ _ _ _ _
  refine g_if_ne  O 32 d_Mo_slot_10 (by decide) (fun c10 => ?_) (fun c10 => ?_)
  · have hn := (cd_nbn _).mp c10
    rw [if_neg (by rw [hn]; decide)] at h
    refine g_iconst (v := -1) O d_Mo_slot_32 (by decide) ?_
    refine g_iret O d_Mo_slot_33 (Nat.le_of_ble_eq_true rfl) (Nat.le_of_ble_eq_true rfl) ?_
    exact h
  · have hDj := (cd_nb _).mp c10
    obtain ⟨j, hjj, rfl⟩ := isD_of hM.D6 hDj
    have h6j : j < 6 := Nat.lt_of_lt_of_le hjj hM.D6
    have hclj : (nI j).toNatClampNeg = j := nI_clamp (by omega)
    rw [if_pos hDj, hclj] at h
    first | refine g_aload_n O 0 d_Mo_slot_13 rfl rfl ?_ | refine g_aload_nq O 0 d_Mo_slot_13 rfl rfl ?_
    refine g_getS O c_Mo 3 (by decide) rfl hM.km lk_Mo_19 d_Mo_slot_14 (hM.a 3 (by omega) (by omega)).1 ?_
    refine g_iload_n O 1 d_Mo_slot_17 rfl rfl ?_
    refine g_zaldV O 1 rfl rfl (hM.a 3 (by omega) (by omega)).2.1 (vinL (hM.a 3 (by omega) (by omega)).2.2 (ix_in (n := 6) (show j < 6 from by omega) (by omega))) d_Mo_slot_18 (Eq.trans (congrArg (cd_I _ (1000 + 1) (B 3)) (cl_nI (j := j) (by omega))) (hM.E h6j)) ?_
    refine g_if_ne  O 32 d_Mo_slot_19 (by decide) (fun c19 => ?_) (fun c19 => ?_)
    · rw [if_pos (cd_b_ne.mp c19)] at h
      refine g_iconst (v := -1) O d_Mo_slot_32 (by decide) ?_
      refine g_iret O d_Mo_slot_33 (Nat.le_of_ble_eq_true rfl) (Nat.le_of_ble_eq_true rfl) ?_
      exact h
    · rw [if_neg (by rw [cd_b_eq.mp c19]; decide)] at h
      first | refine g_aload_n O 0 d_Mo_slot_22 rfl rfl ?_ | refine g_aload_nq O 0 d_Mo_slot_22 rfl rfl ?_
      refine g_iload_n O 2 d_Mo_slot_23 rfl rfl ?_
      refine g_bipush (v := 8) O d_Mo_slot_24 (by decide) ?_
      refine g_callv (N := 0) (mc := 0) (ms := 0) (av := [_, _]) O (Or.inl ⟨_, _, cw_Mo_out⟩) pl_Mo (ci := 6) (q := q_Mo) rfl hM.km ml_Mo_66 im_Mo_out se_Mo_out rfl d_Mo_slot_26 rfl (Nat.le_of_ble_eq_true rfl) (Nat.le_of_ble_eq_true rfl) (Nat.le_of_ble_eq_true rfl) (Nat.le_of_ble_eq_true rfl) ?_
      refine ct_Mo_out ?_
      change cd_Go _ _ _ _ _ _ _ _ _ _
      refine g_if_eq  O 34 d_Mo_slot_29 (by decide) (fun c29 => ?_) (fun c29 => ?_)
      · have hSi : isSl _ = true := (cd_nb _).mp c29
        obtain ⟨i, hii, rfl⟩ := isSl_of hSi
        have hcli : (nI i).toNatClampNeg = i := nI_clamp (by omega)
        rw [if_pos hSi, hcli] at h
        first | refine g_aload_n O 0 d_Mo_slot_34 rfl rfl ?_ | refine g_aload_nq O 0 d_Mo_slot_34 rfl rfl ?_
        refine g_getS O c_Mo 7 (by decide) rfl hM.km lk_Mo_33 d_Mo_slot_35 (hM.a 7 (by omega) (by omega)).1 ?_
        refine g_iload_n O 1 d_Mo_slot_38 rfl rfl ?_
        refine g_bipush (v := 8) O d_Mo_slot_39 (by decide) ?_
        refine g_imul O d_Mo_slot_41 ?_
        refine g_iload_n O 2 d_Mo_slot_42 rfl rfl ?_
        refine g_iadd O d_Mo_slot_43 ?_
        rw [m8, nI_add]
        refine g_ialdV O 0 rfl rfl (hM.a 7 (by omega) (by omega)).2.1 (vinL (hM.a 7 (by omega) (by omega)).2.2 (ix_in (n := 48) (show j * 8 + i < 48 from by omega) (by omega))) d_Mo_slot_44 (Eq.trans (congrArg (cd_I _ (1000 + 0) (B 7)) (cl_nI (j := j * 8 + i) (by omega))) (hM.S h6j hii)) ?_
        refine g_istore_n O 3 d_Mo_slot_45 rfl (Nat.le_of_ble_eq_true rfl) ?_
        refine g_iload_n O 3 d_Mo_slot_46 rfl rfl ?_
        refine g_if_ge  O 54 d_Mo_slot_47 (by decide) (fun c47 => ?_) (fun c47 => ?_)
        · obtain ⟨c, hs⟩ := sl_ge (fun c hc => Nat.lt_of_lt_of_le (hM.wf.1 j i c hjj hii hc) hM.C40) c47
          have hc := hM.wf.1 j i c hjj hii hs
          rw [hs] at h ⊢
          change cd_Go G l C _ _ _ _ _ [some (.ref m), some (.int (nI j)), some (.int (nI i)), some (.int (nI c))] []
          first | refine g_aload_n O 0 d_Mo_slot_54 rfl rfl ?_ | refine g_aload_nq O 0 d_Mo_slot_54 rfl rfl ?_
          refine g_iload_n O 3 d_Mo_slot_55 rfl rfl ?_
          refine g_callv (N := 1) (mc := 0) (ms := 0) (av := [_]) O (Or.inl ⟨_, _, cw_Mo_dead⟩) pl_Mo (ci := 6) (q := q_Mo) rfl hM.km ml_Mo_74 im_Mo_dead se_Mo_dead rfl d_Mo_slot_56 rfl (Nat.le_of_ble_eq_true rfl) (Nat.le_of_ble_eq_true rfl) (Nat.le_of_ble_eq_true rfl) (Nat.le_of_ble_eq_true rfl) ?_
          refine ct_Mo_dead hM hc ?_
          rw [← hL.1 c hc]
          change cd_Go _ _ _ _ _ _ _ _ _ _
          refine g_if_eq  O 66 d_Mo_slot_59 (by decide) (fun c59 => ?_) (fun c59 => ?_)
          · try simp only at h
            rw [if_neg (by rw [cd_b_eq.mp c59]; decide)] at h
            refine g_iconst (v := 1) O d_Mo_slot_66 (by decide) ?_
            refine g_iret O d_Mo_slot_67 (Nat.le_of_ble_eq_true rfl) (Nat.le_of_ble_eq_true rfl) ?_
            exact h
          · try simp only at h
            rw [if_pos (cd_b_ne.mp c59)] at h
            refine g_iconst (v := 2) O d_Mo_slot_62 (by decide) ?_
            refine g_goto O 67 d_Mo_slot_63 (by decide) ?_
            refine g_iret O d_Mo_slot_67 (Nat.le_of_ble_eq_true rfl) (Nat.le_of_ble_eq_true rfl) ?_
            exact h
        · have hs := sl_lt (fun c hc => Nat.lt_of_lt_of_le (hM.wf.1 j i c hjj hii hc) hM.C40) c47
          rw [hs] at h
          refine g_iconst (v := 0) O d_Mo_slot_50 (by decide) ?_
          refine g_goto O 67 d_Mo_slot_51 (by decide) ?_
          refine g_iret O d_Mo_slot_67 (Nat.le_of_ble_eq_true rfl) (Nat.le_of_ble_eq_true rfl) ?_
          exact h
      · have hn : isSl _ = false := (cd_nbn _).mp c29
        rw [if_neg (by rw [hn]; decide)] at h
        refine g_iconst (v := -1) O d_Mo_slot_32 (by decide) ?_
        refine g_iret O d_Mo_slot_33 (Nat.le_of_ble_eq_true rfl) (Nat.le_of_ble_eq_true rfl) ?_
        exact h
theorem le4 {a : Int32} (z : a < 4) : a.toInt ≤ (3 : Int32).toInt := by
  have h1 := Int32.lt_iff_toInt_lt.mp z
  have e3 : (3 : Int32).toInt = 3 := by decide
  have e4 : (4 : Int32).toInt = 4 := by decide
  omega
theorem lt4 {a : Int32} (z : a ≤ 3) : a < 4 := by
  have h1 := Int32.le_iff_toInt_le.mp z
  have e3 : (3 : Int32).toInt = 3 := by decide
  have e4 : (4 : Int32).toInt = 4 := by decide
  exact Int32.lt_iff_toInt_lt.mpr (by omega)
theorem sub4 {a : Int32} (h1 : ¬ a ≤ 3) (h2 : ¬ (10 : Int32) ≤ a) : ∃ b : Nat, b < 6 ∧ a - 4 = nI b := by
  have g1 : ¬ a.toInt ≤ (3 : Int32).toInt := fun z => h1 (Int32.le_iff_toInt_le.mpr z)
  have g2 : ¬ (10 : Int32).toInt ≤ a.toInt := fun z => h2 (Int32.le_iff_toInt_le.mpr z)
  have e3 : (3 : Int32).toInt = 3 := by decide
  have e10 : (10 : Int32).toInt = 10 := by decide
  rw [e3] at g1
  rw [e10] at g2
  have hp : ¬ a < 0 := fun z => by
    have := Int32.lt_iff_toInt_lt.mp z
    have e0 : (0 : Int32).toInt = 0 := by decide
    omega
  obtain ⟨j, hj, rfl⟩ := nI_of hp
  rw [nI_toInt hj] at g1 g2
  exact ⟨j - 4, by omega, nI_sub (a := j) (b := 4) (by omega)⟩
set_option maxHeartbeats 4000000 in
set_option maxRecDepth 100000 in
theorem om_count {G : cd_Gl} {l : Launch} {w : cd_Wd} {Q : cd_Out → cd_Wd → Prop} {m : Nat} {B : Nat → Nat} {σ : cd_S} {g : Nat → Bool} (hM : RepM w m B σ g) (hL : Rel σ g) (hI : cd_Iv σ) {a : Int32} (h : ∀ w', RepM w' m B σ g → cd_Fr w w' (mow m B) → Q (.inl (some (.int (sv_count σ a)))) w') : cd_Ct G l y_Mo_count 3 0 0 [.ref m, .int a] w Q := by
  refine cd_ofW cw_Mo_count (by simp [Value.category, cat_rf]) (Nat.le_of_ble_eq_true rfl) fun C O => ?_
  change cd_Go G l C _ 0 0 w 0 [some (.ref m), some (.int a), none, none] []
  first | refine g_aload_n O 0 d_Mo_count_0 rfl rfl ?_ | refine g_aload_nq O 0 d_Mo_count_0 rfl rfl ?_
  refine g_iconst (v := 0) O d_Mo_count_1 (by decide) ?_
  refine g_putI O c_Mo 2 (by decide) rfl hM.km (Or.inl rfl) (Or.inl rfl) lk_Mo_16 d_Mo_count_2 ?_
  have hM0 := hM
  replace hM : RepM (cd_wI w (32 * 6 + 2) m 0 0) m B σ g := rm_km hM (by decide) (by decide) (by decide) (by decide)
  replace h := h _ hM (cd_Fr.wI (Or.inl rfl))
  unfold sv_count at h
  have hD6 := hM.D6
  refine g_iconst (v := 0) O d_Mo_count_5 (by decide) ?_
  refine g_istore_n O 2 d_Mo_count_6 rfl (Nat.le_of_ble_eq_true rfl) ?_
  refine g_iconst (v := 0) O d_Mo_count_7 (by decide) ?_
  refine g_istore_n O 3 d_Mo_count_8 rfl (Nat.le_of_ble_eq_true rfl) ?_
  have loop : ∀ (j : Nat) (v : cd_Wd), j ≤ sD σ → (v = cd_wI w (32 * 6 + 2) m 0 0) → cd_Go G l C (cd_MQ G (cx_s C) (cx_b C) 0 0 Q) (0) (0) v 9 [some (.ref m), some (.int a), some (.int (nI (cnt (fun d => !sE σ d) j))), some (.int (nI j))] [] := by
    refine lp (sD σ) (P := fun j v => v = cd_wI w (32 * 6 + 2) m 0 0) (g := fun j v => cd_Go G l C (cd_MQ G (cx_s C) (cx_b C) 0 0 Q) (0) (0) v 9 [some (.ref m), some (.int a), some (.int (nI (cnt (fun d => !sE σ d) j))), some (.int (nI j))] []) (fun v hP => ?_) (fun j v hj hP ih => ?_)
    · skip
      subst hP
      refine g_iload_n O 3 d_Mo_count_9 rfl rfl ?_
      first | refine g_aload_n O 0 d_Mo_count_10 rfl rfl ?_ | refine g_aload_nq O 0 d_Mo_count_10 rfl rfl ?_
      refine g_getV O c_Mo 0 (by decide) rfl hM.km lk_Mo_7 d_Mo_count_11 hM.D ?_
      refine g_icmp_ge  O 35 d_Mo_count_14 (by decide) (fun c14 => ?_) (fun c14 => ?_)
      · refine g_iload_n O 1 d_Mo_count_35 rfl rfl ?_
        refine g_if_ne  O 44 d_Mo_count_36 (by decide) (fun c36 => ?_) (fun c36 => ?_)
        · rw [if_neg c36] at h
          refine g_iload_n O 1 d_Mo_count_44 rfl rfl ?_
          refine g_iconst (v := 1) O d_Mo_count_45 (by decide) ?_
          refine g_icmp_ne  O 51 d_Mo_count_46 (by decide) (fun c46 => ?_) (fun c46 => ?_)
          · rw [if_neg c46] at h
            refine g_iload_n O 1 d_Mo_count_51 rfl rfl ?_
            refine g_iconst (v := 2) O d_Mo_count_52 (by decide) ?_
            refine g_icmp_ne  O 61 d_Mo_count_53 (by decide) (fun c53 => ?_) (fun c53 => ?_)
            · rw [if_neg c53] at h
              refine g_iload_n O 1 d_Mo_count_61 rfl rfl ?_
              refine g_iconst (v := 3) O d_Mo_count_62 (by decide) ?_
              refine g_icmp_ne  O 71 d_Mo_count_63 (by decide) (fun c63 => ?_) (fun c63 => ?_)
              · rw [if_neg c63] at h
                refine g_iload_n O 1 d_Mo_count_71 rfl rfl ?_
                refine g_iconst (v := 3) O d_Mo_count_72 (by decide) ?_
                refine g_icmp_le  O 106 d_Mo_count_73 (by decide) (fun c73 => ?_) (fun c73 => ?_)
                · rw [if_pos (lt4 c73)] at h
                  refine g_iconst (v := -1) O d_Mo_count_106 (by decide) ?_
                  refine g_iret O d_Mo_count_107 (Nat.le_of_ble_eq_true rfl) (Nat.le_of_ble_eq_true rfl) ?_
                  exact h
                · refine g_iload_n O 1 d_Mo_count_76 rfl rfl ?_
                  refine g_bipush (v := 10) O d_Mo_count_77 (by decide) ?_
                  refine g_icmp_ge  O 106 d_Mo_count_79 (by decide) (fun c79 => ?_) (fun c79 => ?_)
                  · rw [if_neg (fun z => c73 (Int32.le_iff_toInt_le.mpr (le4 z))), if_pos c79] at h
                    refine g_iconst (v := -1) O d_Mo_count_106 (by decide) ?_
                    refine g_iret O d_Mo_count_107 (Nat.le_of_ble_eq_true rfl) (Nat.le_of_ble_eq_true rfl) ?_
                    exact h
                  · rw [if_neg (fun z => c73 (Int32.le_iff_toInt_le.mpr (le4 z))), if_neg c79] at h
                    obtain ⟨b, hb, eb⟩ := sub4 c73 c79
                    rw [eb] at h
                    have hclb : (nI b).toNatClampNeg = b := nI_clamp (by omega)
                    refine g_iload_n O 1 d_Mo_count_82 rfl rfl ?_
                    refine g_iconst (v := 4) O d_Mo_count_83 (by decide) ?_
                    refine g_isub O d_Mo_count_84 ?_
                    rw [eb]
                    first | refine g_aload_n O 0 d_Mo_count_85 rfl rfl ?_ | refine g_aload_nq O 0 d_Mo_count_85 rfl rfl ?_
                    refine g_getV O c_Mo 0 (by decide) rfl hM.km lk_Mo_7 d_Mo_count_86 hM.D ?_
                    refine g_icmp_ge  O 102 d_Mo_count_89 (by decide) (fun c89 => ?_) (fun c89 => ?_)
                    · have hn : isD σ (nI b) = false := by simp [isD, c89]
                      rw [if_neg (by rw [hn]; decide)] at h
                      refine g_iconst (v := 0) O d_Mo_count_102 (by decide) ?_
                      refine g_goto O 107 d_Mo_count_103 (by decide) ?_
                      refine g_iret O d_Mo_count_107 (Nat.le_of_ble_eq_true rfl) (Nat.le_of_ble_eq_true rfl) ?_
                      exact h
                    · have hn : isD σ (nI b) = true := by simp [isD, nI_pos (show b < 2 ^ 31 by omega)]; exact Int32.not_le.mp c89
                      rw [if_pos hn, hclb] at h
                      first | refine g_aload_n O 0 d_Mo_count_92 rfl rfl ?_ | refine g_aload_nq O 0 d_Mo_count_92 rfl rfl ?_
                      refine g_iload_n O 1 d_Mo_count_93 rfl rfl ?_
                      refine g_iconst (v := 4) O d_Mo_count_94 (by decide) ?_
                      refine g_isub O d_Mo_count_95 ?_
                      rw [eb]
                      refine g_callv (N := 0) (mc := 0) (ms := 0) (av := [_]) O (Or.inl ⟨_, _, cw_Mo_objects⟩) pl_Mo (ci := 6) (q := q_Mo) rfl hM.km ml_Mo_94 im_Mo_objects se_Mo_objects rfl d_Mo_count_96 rfl (Nat.le_of_ble_eq_true rfl) (Nat.le_of_ble_eq_true rfl) (Nat.le_of_ble_eq_true rfl) (Nat.le_of_ble_eq_true rfl) ?_
                      refine ct_Mo_objects hM (show b < 6 by omega) ?_
                      change cd_Go _ _ _ _ _ _ _ _ _ _
                      refine g_goto O 107 d_Mo_count_99 (by decide) ?_
                      refine g_iret O d_Mo_count_107 (Nat.le_of_ble_eq_true rfl) (Nat.le_of_ble_eq_true rfl) ?_
                      exact h
              · rw [if_pos c63] at h
                first | refine g_aload_n O 0 d_Mo_count_66 rfl rfl ?_ | refine g_aload_nq O 0 d_Mo_count_66 rfl rfl ?_
                refine g_callv (N := 2) (mc := 0) (ms := 0) (av := []) O (Or.inl ⟨_, _, cw_Mo_alive⟩) pl_Mo (ci := 6) (q := q_Mo) rfl hM.km ml_Mo_107 im_Mo_alive se_Mo_alive rfl d_Mo_count_67 rfl (Nat.le_of_ble_eq_true rfl) (Nat.le_of_ble_eq_true rfl) (Nat.le_of_ble_eq_true rfl) (Nat.le_of_ble_eq_true rfl) ?_
                refine ct_Mo_alive hM ?_
                rw [show cnt (fun c => !rd σ g c) (sC σ) = cnt (fun c => !kX σ c) (sC σ) from cnt_cg fun j hj => by rw [hL.1 j hj]]
                change cd_Go _ _ _ _ _ _ _ _ _ _
                refine g_iret O d_Mo_count_70 (Nat.le_of_ble_eq_true rfl) (Nat.le_of_ble_eq_true rfl) ?_
                exact h
            · rw [if_pos c53] at h
              first | refine g_aload_n O 0 d_Mo_count_56 rfl rfl ?_ | refine g_aload_nq O 0 d_Mo_count_56 rfl rfl ?_
              refine g_getV O c_Mo 1 (by decide) rfl hM.km lk_Mo_13 d_Mo_count_57 hM.C ?_
              refine g_iret O d_Mo_count_60 (Nat.le_of_ble_eq_true rfl) (Nat.le_of_ble_eq_true rfl) ?_
              exact h
          · rw [if_pos c46] at h
            refine g_iload_n O 2 d_Mo_count_49 rfl rfl ?_
            refine g_iret O d_Mo_count_50 (Nat.le_of_ble_eq_true rfl) (Nat.le_of_ble_eq_true rfl) ?_
            exact h
        · rw [if_pos c36] at h
          first | refine g_aload_n O 0 d_Mo_count_39 rfl rfl ?_ | refine g_aload_nq O 0 d_Mo_count_39 rfl rfl ?_
          refine g_getV O c_Mo 0 (by decide) rfl hM.km lk_Mo_7 d_Mo_count_40 hM.D ?_
          refine g_iret O d_Mo_count_43 (Nat.le_of_ble_eq_true rfl) (Nat.le_of_ble_eq_true rfl) ?_
          exact h
      · exact absurd (Int32.le_refl _) c14
    · skip
      subst hP
      refine g_iload_n O 3 d_Mo_count_9 rfl rfl ?_
      first | refine g_aload_n O 0 d_Mo_count_10 rfl rfl ?_ | refine g_aload_nq O 0 d_Mo_count_10 rfl rfl ?_
      refine g_getV O c_Mo 0 (by decide) rfl hM.km lk_Mo_7 d_Mo_count_11 hM.D ?_
      refine g_icmp_ge  O 35 d_Mo_count_14 (by decide) (fun c14 => ?_) (fun c14 => ?_)
      · exact absurd c14 (nI_ge (b := sD σ) hj (by omega))
      · first | refine g_aload_n O 0 d_Mo_count_17 rfl rfl ?_ | refine g_aload_nq O 0 d_Mo_count_17 rfl rfl ?_
        refine g_getS O c_Mo 3 (by decide) rfl hM.km lk_Mo_19 d_Mo_count_18 (hM.a 3 (by omega) (by omega)).1 ?_
        refine g_iload_n O 3 d_Mo_count_21 rfl rfl ?_
        refine g_zaldV O 1 rfl rfl (hM.a 3 (by omega) (by omega)).2.1 (vinL (hM.a 3 (by omega) (by omega)).2.2 (ix_in (n := 6) (show j < 6 from by omega) (by omega))) d_Mo_count_22 (Eq.trans (congrArg (cd_I _ (1000 + 1) (B 3)) (cl_nI (j := j) (by omega))) (hM.E (show j < 6 by omega))) ?_
        refine g_if_ne  O 29 d_Mo_count_23 (by decide) (fun c23 => ?_) (fun c23 => ?_)
        · have e1 := cnt_f (p := fun d => !sE σ d) (j := j) (by simp [cd_b_ne.mp c23])
          first | refine g_iinc O d_Mo_count_29 rfl (ic1 _) ?_ | refine g_iinc O d_Mo_count_29 rfl rfl ?_
          refine g_goto O 9 d_Mo_count_32 (by decide) ?_
          have e := ih _ rfl
          rw [e1] at e
          exact e
        · have e1 := cnt_t (p := fun d => !sE σ d) (j := j) (by simp [cd_b_eq.mp c23])
          first | refine g_iinc O d_Mo_count_26 rfl (ic1 _) ?_ | refine g_iinc O d_Mo_count_26 rfl rfl ?_
          first | refine g_iinc O d_Mo_count_29 rfl (ic1 _) ?_ | refine g_iinc O d_Mo_count_29 rfl rfl ?_
          refine g_goto O 9 d_Mo_count_32 (by decide) ?_
          have e := ih _ rfl
          rw [e1] at e
          exact e
  exact loop 0 _ (by omega) rfl
