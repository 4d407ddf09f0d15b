set_option maxHeartbeats 4000000 in
set_option maxRecDepth 100000 in
theorem op_holds {G : cd_Gl} {l : Launch} {w : cd_Wd} {Q : cd_Out → cd_Wd → Prop} {x : Nat} {A : cd_A} {σ : cd_S} (hR : cd_Rep w x A σ) (hI : cd_Iv σ) {d o f : Int32} (h : Q (.inl (some (.int (sv_holds σ d o f)))) w) : cd_Ct G l y_Cd_holds 2 0 0 [.ref x, .int d, .int o, .int f] w Q := by
  refine cd_ofW cw_Cd_holds (by simp [Value.category, cat_rf]) (Nat.le_of_ble_eq_true rfl) fun C O => ?_
  change cd_Go G l C _ 0 0 w 0 [some (.ref x), some (.int d), some (.int o), some (.int f), none] []
  first | refine g_aload_n O 0 d_Cd_holds_0 rfl rfl ?_ | refine g_aload_nq O 0 d_Cd_holds_0 rfl rfl ?_
  refine g_iload_n O 1 d_Cd_holds_1 rfl rfl ?_
  refine g_iload_n O 2 d_Cd_holds_2 rfl rfl ?_
  refine g_iload_n O 3 d_Cd_holds_3 rfl rfl ?_
  refine g_callv (N := 1) (mc := 0) (ms := 0) (av := [_, _, _]) O (Or.inl ⟨_, _, cw_Cd_isField⟩) pl_Cd (ci := 0) (q := q_Cd) rfl hR.top.1 ml_Cd_201 im_Cd_isField se_Cd_isField rfl d_Cd_holds_4 rfl (Nat.le_of_ble_eq_true rfl) (Nat.le_of_ble_eq_true rfl) (Nat.le_of_ble_eq_true rfl) (Nat.le_of_ble_eq_true rfl) ?_
  refine ct_Cd_isField hR ?_
  unfold sv_holds at h
  change cd_Go _ _ _ _ _ _ _ _ _ _
  refine g_if_ne  O 12 d_Cd_holds_7 (by decide) (fun c7 => ?_) (fun c7 => ?_)
  · rw [if_pos (cd_b_ne.mp c7)] at h
    obtain ⟨j, i, g, hj, rfl, hi, rfl, hti, hg, rfl⟩ := isFd_of hR.top.2.2.2.2.2.2.2.2.2.2.2.2.2.2.2.2.2.2.2.1 (cd_b_ne.mp c7)
    have hD6 := hR.top.2.2.2.2.2.2.2.2.2.2.2.2.2.2.2.2.2.2.2.1
    have hcj : (nI j).toNatClampNeg = j := nI_clamp (by omega)
    have hci : (nI i).toNatClampNeg = i := nI_clamp (by omega)
    have hcg : (nI g).toNatClampNeg = g := nI_clamp (by omega)
    rw [hcj, hci, hcg] at h
    have hfo := hI.2.2.1 j i g
    have hlk := fun z => hR.wf.2.2.1 j i g z hj hi hg
    have hcw := fun z => hR.wf.2.1 j i g z hj hi hg
    have qf := hR.f hj hi hg
    generalize sF σ j i g = t at h hfo hlk hcw qf
    obtain ⟨nm, lk, cp⟩ := t
    simp only at h hlk hcw qf
    first | refine g_aload_n O 0 d_Cd_holds_12 rfl rfl ?_ | refine g_aload_nq O 0 d_Cd_holds_12 rfl rfl ?_
    refine g_getS O c_Cd 0 (by decide) rfl hR.top.1 lk_Cd_11 d_Cd_holds_13 hR.top.2.1 ?_
    refine g_iload_n O 1 d_Cd_holds_16 rfl rfl ?_
    refine g_aaldS O 3 rfl rfl hR.top.2.2.1 (by rw [hR.top.2.2.2.1]; exact ix_in (Nat.lt_of_lt_of_le hj hR.top.2.2.2.2.2.2.2.2.2.2.2.2.2.2.2.2.2.2.2.1) (by omega)) d_Cd_holds_17 (by rw [hcj]; exact (hR.d hj).1) ?_
    refine g_getS O c_Do 1 (by decide) rfl (hR.d hj).2.1 lk_Cd_205 d_Cd_holds_18 (hR.d hj).2.2.1 ?_
    refine g_iload_n O 2 d_Cd_holds_21 rfl rfl ?_
    refine g_aaldS O 4 rfl rfl (hR.d hj).2.2.2.1 (by rw [(hR.d hj).2.2.2.2.1]; exact ix_in hi (by omega)) d_Cd_holds_22 (by rw [hci]; exact (hR.o hj hi).1) ?_
    refine g_getS O c_Ob 1 (by decide) rfl (hR.o hj hi).2.1 lk_Cd_209 d_Cd_holds_23 (hR.o hj hi).2.2.2.1 ?_
    refine g_iload_n O 3 d_Cd_holds_26 rfl rfl ?_
    refine g_aaldS O 5 rfl rfl (hR.o hj hi).2.2.2.2.1 (by rw [(hR.o hj hi).2.2.2.2.2]; exact ix_in hg (by omega)) d_Cd_holds_27 (by rw [hcg]; exact (hR.f hj hi hg).1) ?_
    first | refine g_astore O d_Cd_holds_28 (Nat.le_of_ble_eq_true rfl) ?_ | refine g_astoreq O d_Cd_holds_28 (Nat.le_of_ble_eq_true rfl) ?_
    first | refine g_aload O d_Cd_holds_30 rfl ?_ | refine g_aloadq O d_Cd_holds_30 rfl ?_
    refine g_getOV O c_Fi 2 (by decide) rfl qf.2.1 lk_Cd_188 d_Cd_holds_32 qf.2.2.2.2 ?_
    refine g_ifnull O 55 d_Cd_holds_35 (by decide) (fun c35 => ?_) (fun x35 c35 => ?_)
    · have hcp : cp = none := by cases cp with
        | none => rfl
        | some p => cases c35
      subst hcp
      first | refine g_aload O d_Cd_holds_55 rfl ?_ | refine g_aloadq O d_Cd_holds_55 rfl ?_
      refine g_callv (N := 0) (mc := 0) (ms := 0) (av := []) O (Or.inl ⟨_, _, cw_Fi_isLink⟩) pl_Fi (ci := 3) (q := q_Fi) rfl qf.2.1 ml_Cd_215 im_Fi_isLink se_Fi_isLink rfl d_Cd_holds_57 rfl (Nat.le_of_ble_eq_true rfl) (Nat.le_of_ble_eq_true rfl) (Nat.le_of_ble_eq_true rfl) (Nat.le_of_ble_eq_true rfl) ?_
      refine ct_Fi_isLink qf.2.1 ?_
      rw [qf.2.2.2.1]
      change cd_Go _ _ _ _ _ _ _ _ _ _
      refine g_if_eq  O 67 d_Cd_holds_60 (by decide) (fun c60 => ?_) (fun c60 => ?_)
      · have hl : lk = none := by cases lk with
          | none => rfl
          | some z => exact absurd c60 (by simp only [cd_bi]; rw [if_pos (fun e => by have := (cd_l_eq hlk).mp e; cases this)]; decide)
        subst hl
        refine g_iconst (v := 0) O d_Cd_holds_67 (by decide) ?_
        refine g_iret O d_Cd_holds_68 (Nat.le_of_ble_eq_true rfl) (Nat.le_of_ble_eq_true rfl) ?_
        exact h
      · obtain ⟨z, rfl⟩ : ∃ z, lk = some z := by cases lk with
          | none => exact absurd (by simp [cd_bi, cd_l]) c60
          | some z => exact ⟨z, rfl⟩
        refine g_iconst (v := 1) O d_Cd_holds_63 (by decide) ?_
        refine g_goto O 68 d_Cd_holds_64 (by decide) ?_
        refine g_iret O d_Cd_holds_68 (Nat.le_of_ble_eq_true rfl) (Nat.le_of_ble_eq_true rfl) ?_
        exact h
    · obtain ⟨p, rfl⟩ : ∃ p, cp = some p := by cases cp with
        | none => cases c35
        | some p => exact ⟨p, rfl⟩
      have hp := hcw p rfl
      first | refine g_aload O d_Cd_holds_38 rfl ?_ | refine g_aloadq O d_Cd_holds_38 rfl ?_
      refine g_getS O c_Fi 2 (by decide) rfl qf.2.1 lk_Cd_188 d_Cd_holds_40 qf.2.2.2.2 ?_
      refine g_getV O c_Ca 6 (by decide) rfl (hR.c hp).2.1 lk_Cd_116 d_Cd_holds_43 (hR.c hp).2.2.2.2.2.2.2.2 ?_
      refine g_if_eq  O 53 d_Cd_holds_46 (by decide) (fun c46 => ?_) (fun c46 => ?_)
      · try simp only at h
        rw [if_neg (by rw [cd_b_eq.mp c46]; decide)] at h
        refine g_iconst (v := 2) O d_Cd_holds_53 (by decide) ?_
        refine g_iret O d_Cd_holds_54 (Nat.le_of_ble_eq_true rfl) (Nat.le_of_ble_eq_true rfl) ?_
        exact h
      · try simp only at h
        rw [if_pos (cd_b_ne.mp c46)] at h
        refine g_iconst (v := 3) O d_Cd_holds_49 (by decide) ?_
        refine g_goto O 54 d_Cd_holds_50 (by decide) ?_
        refine g_iret O d_Cd_holds_54 (Nat.le_of_ble_eq_true rfl) (Nat.le_of_ble_eq_true rfl) ?_
        exact h
  · rw [if_neg (by rw [cd_b_eq.mp c7]; decide)] at h
    refine g_iconst (v := -1) O d_Cd_holds_10 (by decide) ?_
    refine g_iret O d_Cd_holds_11 (Nat.le_of_ble_eq_true rfl) (Nat.le_of_ble_eq_true rfl) ?_
    exact h
set_option maxHeartbeats 4000000 in
set_option maxRecDepth 100000 in
theorem op_linked {G : cd_Gl} {l : Launch} {w : cd_Wd} {Q : cd_Out → cd_Wd → Prop} {x : Nat} {A : cd_A} {σ : cd_S} (hR : cd_Rep w x A σ) {d o f : Int32} (h : Q (.inl (some (.int (sv_linked σ d o f)))) w) : cd_Ct G l y_Cd_linked 2 0 0 [.ref x, .int d, .int o, .int f] w Q := by
  refine cd_ofW cw_Cd_linked (by simp [Value.category, cat_rf]) (Nat.le_of_ble_eq_true rfl) fun C O => ?_
  change cd_Go G l C _ 0 0 w 0 [some (.ref x), some (.int d), some (.int o), some (.int f)] []
  first | refine g_aload_n O 0 d_Cd_linked_0 rfl rfl ?_ | refine g_aload_nq O 0 d_Cd_linked_0 rfl rfl ?_
  refine g_iload_n O 1 d_Cd_linked_1 rfl rfl ?_
  refine g_iload_n O 2 d_Cd_linked_2 rfl rfl ?_
  refine g_iload_n O 3 d_Cd_linked_3 rfl rfl ?_
  refine g_callv (N := 1) (mc := 0) (ms := 0) (av := [_, _, _]) O (Or.inl ⟨_, _, cw_Cd_isField⟩) pl_Cd (ci := 0) (q := q_Cd) rfl hR.top.1 ml_Cd_201 im_Cd_isField se_Cd_isField rfl d_Cd_linked_4 rfl (Nat.le_of_ble_eq_true rfl) (Nat.le_of_ble_eq_true rfl) (Nat.le_of_ble_eq_true rfl) (Nat.le_of_ble_eq_true rfl) ?_
  refine ct_Cd_isField hR ?_
  unfold sv_linked at h
  change cd_Go _ _ _ _ _ _ _ _ _ _
  refine g_if_eq  O 32 d_Cd_linked_7 (by decide) (fun c7 => ?_) (fun c7 => ?_)
  · rw [if_neg (by rw [cd_b_eq.mp c7]; decide)] at h
    refine g_iconst (v := -1) O d_Cd_linked_32 (by decide) ?_
    refine g_iret O d_Cd_linked_33 (Nat.le_of_ble_eq_true rfl) (Nat.le_of_ble_eq_true rfl) ?_
    exact h
  · rw [if_pos (cd_b_ne.mp c7)] at h
    obtain ⟨j, i, g, hj, rfl, hi, rfl, hti, hg, rfl⟩ := isFd_of hR.top.2.2.2.2.2.2.2.2.2.2.2.2.2.2.2.2.2.2.2.1 (cd_b_ne.mp c7)
    have hD6 := hR.top.2.2.2.2.2.2.2.2.2.2.2.2.2.2.2.2.2.2.2.1
    have hcj : (nI j).toNatClampNeg = j := nI_clamp (by omega)
    have hci : (nI i).toNatClampNeg = i := nI_clamp (by omega)
    have hcg : (nI g).toNatClampNeg = g := nI_clamp (by omega)
    rw [hcj, hci, hcg] at h
    first | refine g_aload_n O 0 d_Cd_linked_10 rfl rfl ?_ | refine g_aload_nq O 0 d_Cd_linked_10 rfl rfl ?_
    refine g_getS O c_Cd 0 (by decide) rfl hR.top.1 lk_Cd_11 d_Cd_linked_11 hR.top.2.1 ?_
    refine g_iload_n O 1 d_Cd_linked_14 rfl rfl ?_
    refine g_aaldS O 3 rfl rfl hR.top.2.2.1 (by rw [hR.top.2.2.2.1]; exact ix_in (Nat.lt_of_lt_of_le hj hR.top.2.2.2.2.2.2.2.2.2.2.2.2.2.2.2.2.2.2.2.1) (by omega)) d_Cd_linked_15 (by rw [hcj]; exact (hR.d hj).1) ?_
    refine g_getS O c_Do 1 (by decide) rfl (hR.d hj).2.1 lk_Cd_205 d_Cd_linked_16 (hR.d hj).2.2.1 ?_
    refine g_iload_n O 2 d_Cd_linked_19 rfl rfl ?_
    refine g_aaldS O 4 rfl rfl (hR.d hj).2.2.2.1 (by rw [(hR.d hj).2.2.2.2.1]; exact ix_in hi (by omega)) d_Cd_linked_20 (by rw [hci]; exact (hR.o hj hi).1) ?_
    refine g_getS O c_Ob 1 (by decide) rfl (hR.o hj hi).2.1 lk_Cd_209 d_Cd_linked_21 (hR.o hj hi).2.2.2.1 ?_
    refine g_iload_n O 3 d_Cd_linked_24 rfl rfl ?_
    refine g_aaldS O 5 rfl rfl (hR.o hj hi).2.2.2.2.1 (by rw [(hR.o hj hi).2.2.2.2.2]; exact ix_in hg (by omega)) d_Cd_linked_25 (by rw [hcg]; exact (hR.f hj hi hg).1) ?_
    refine g_getV O c_Fi 1 (by decide) rfl (hR.f hj hi hg).2.1 lk_Cd_218 d_Cd_linked_26 (hR.f hj hi hg).2.2.2.1 ?_
    refine g_goto O 33 d_Cd_linked_29 (by decide) ?_
    refine g_iret O d_Cd_linked_33 (Nat.le_of_ble_eq_true rfl) (Nat.le_of_ble_eq_true rfl) ?_
    exact h
set_option maxHeartbeats 4000000 in
set_option maxRecDepth 100000 in
theorem op_slot {G : cd_Gl} {l : Launch} {w : cd_Wd} {Q : cd_Out → cd_Wd → Prop} {x : Nat} {A : cd_A} {σ : cd_S} (hR : cd_Rep w x A σ) {d s : Int32} (h : Q (.inl (some (.int (sv_slot σ d s)))) w) : cd_Ct G l y_Cd_slot 2 0 0 [.ref x, .int d, .int s] w Q := by
  refine cd_ofW cw_Cd_slot (by simp [Value.category, cat_rf]) (Nat.le_of_ble_eq_true rfl) fun C O => ?_
  change cd_Go G l C _ 0 0 w 0 [some (.ref x), some (.int d), some (.int s), none] []
  first | refine g_aload_n O 0 d_Cd_slot_0 rfl rfl ?_ | refine g_aload_nq O 0 d_Cd_slot_0 rfl rfl ?_
  refine g_iload_n O 1 d_Cd_slot_1 rfl rfl ?_
  refine g_callv (N := 0) (mc := 0) (ms := 0) (av := [_]) O (Or.inl ⟨_, _, cw_Cd_isDomain⟩) pl_Cd (ci := 0) (q := q_Cd) rfl hR.top.1 ml_Cd_221 im_Cd_isDomain se_Cd_isDomain rfl d_Cd_slot_2 rfl (Nat.le_of_ble_eq_true rfl) (Nat.le_of_ble_eq_true rfl) (Nat.le_of_ble_eq_true rfl) (Nat.le_of_ble_eq_true rfl) ?_
  refine ct_Cd_isDomain hR ?_
  unfold sv_slot at h
  change cd_Go _ _ _ _ _ _ _ _ _ _
  refine g_if_eq  O 27 d_Cd_slot_5 (by decide) (fun c5 => ?_) (fun c5 => ?_)
  · rw [if_neg (by rw [cd_b_eq.mp c5]; decide)] at h
    refine g_iconst (v := -1) O d_Cd_slot_27 (by decide) ?_
    refine g_iret O d_Cd_slot_28 (Nat.le_of_ble_eq_true rfl) (Nat.le_of_ble_eq_true rfl) ?_
    exact h
  · rw [if_pos (cd_b_ne.mp c5)] at h
    obtain ⟨j, hj, rfl⟩ := isD_of hR.top.2.2.2.2.2.2.2.2.2.2.2.2.2.2.2.2.2.2.2.1 (cd_b_ne.mp c5)
    have hD6 := hR.top.2.2.2.2.2.2.2.2.2.2.2.2.2.2.2.2.2.2.2.1
    have hcj : (nI j).toNatClampNeg = j := nI_clamp (by omega)
    rw [hcj] at h
    first | refine g_aload_n O 0 d_Cd_slot_8 rfl rfl ?_ | refine g_aload_nq O 0 d_Cd_slot_8 rfl rfl ?_
    refine g_getS O c_Cd 0 (by decide) rfl hR.top.1 lk_Cd_11 d_Cd_slot_9 hR.top.2.1 ?_
    refine g_iload_n O 1 d_Cd_slot_12 rfl rfl ?_
    refine g_aaldS O 3 rfl rfl hR.top.2.2.1 (by rw [hR.top.2.2.2.1]; exact ix_in (Nat.lt_of_lt_of_le hj hR.top.2.2.2.2.2.2.2.2.2.2.2.2.2.2.2.2.2.2.2.1) (by omega)) d_Cd_slot_13 (by rw [hcj]; exact (hR.d hj).1) ?_
    refine g_getV O c_Do 0 (by decide) rfl (hR.d hj).2.1 lk_Cd_224 d_Cd_slot_14 (hR.d hj).2.2.2.2.2.2.2.2 ?_
    refine g_if_ne  O 27 d_Cd_slot_17 (by decide) (fun c17 => ?_) (fun c17 => ?_)
    · rw [if_pos (cd_b_ne.mp c17)] at h
      refine g_iconst (v := -1) O d_Cd_slot_27 (by decide) ?_
      refine g_iret O d_Cd_slot_28 (Nat.le_of_ble_eq_true rfl) (Nat.le_of_ble_eq_true rfl) ?_
      exact h
    · rw [if_neg (by rw [cd_b_eq.mp c17]; decide)] at h
      refine g_iload_n O 2 d_Cd_slot_20 rfl rfl ?_
      refine g_calls (N := 0) (mc := 0) (ms := 0) (av := [_]) O (Or.inl ⟨_, _, cw_Cd_isSlot⟩) pl_Cd ml_Cd_81 st_Cd_isSlot in_Cd rfl d_Cd_slot_21 rfl (Nat.le_of_ble_eq_true rfl) (Nat.le_of_ble_eq_true rfl) (Nat.le_of_ble_eq_true rfl) (Nat.le_of_ble_eq_true rfl) ?_
      refine ct_Cd_isSlot ?_
      change cd_Go _ _ _ _ _ _ _ _ _ _
      refine g_if_ne  O 29 d_Cd_slot_24 (by decide) (fun c24 => ?_) (fun c24 => ?_)
      · rw [if_pos (cd_b_ne.mp c24)] at h
        obtain ⟨i, hi, rfl⟩ := isSl_of (cd_b_ne.mp c24)
        have hci : (nI i).toNatClampNeg = i := nI_clamp (by omega)
        rw [hci] at h
        first | refine g_aload_n O 0 d_Cd_slot_29 rfl rfl ?_ | refine g_aload_nq O 0 d_Cd_slot_29 rfl rfl ?_
        refine g_getS O c_Cd 0 (by decide) rfl hR.top.1 lk_Cd_11 d_Cd_slot_30 hR.top.2.1 ?_
        refine g_iload_n O 1 d_Cd_slot_33 rfl rfl ?_
        refine g_aaldS O 3 rfl rfl hR.top.2.2.1 (by rw [hR.top.2.2.2.1]; exact ix_in (Nat.lt_of_lt_of_le hj hR.top.2.2.2.2.2.2.2.2.2.2.2.2.2.2.2.2.2.2.2.1) (by omega)) d_Cd_slot_34 (by rw [hcj]; exact (hR.d hj).1) ?_
        refine g_getS O c_Do 2 (by decide) rfl (hR.d hj).2.1 lk_Cd_227 d_Cd_slot_35 (hR.d hj).2.2.2.2.2.1 ?_
        refine g_iload_n O 2 d_Cd_slot_38 rfl rfl ?_
        refine g_aaldV O 6 rfl rfl (hR.d hj).2.2.2.2.2.2.1 (by rw [(hR.d hj).2.2.2.2.2.2.2.1]; exact ix_in hi (by omega)) d_Cd_slot_39 (show cd_O w (1000 + 6) (A 3 j 0 0) (nI i).toNatClampNeg = (sS σ j i).map (fun c => A 8 c 0 0) from by rw [hci]; exact hR.s hj hi) ?_
        first | refine g_astore_n O 3 d_Cd_slot_40 rfl (Nat.le_of_ble_eq_true rfl) ?_ | refine g_astore_nq O 3 d_Cd_slot_40 rfl (Nat.le_of_ble_eq_true rfl) ?_
        first | refine g_aload_n O 3 d_Cd_slot_41 rfl rfl ?_ | refine g_aload_nq O 3 d_Cd_slot_41 rfl rfl ?_
        refine g_ifnonnull O 47 d_Cd_slot_42 (by decide) (fun x42 c42 => ?_) (fun c42 => ?_)
        · obtain ⟨c, hn⟩ : ∃ c, sS σ j i = some c := by cases hz : sS σ j i with
            | none => rw [hz] at c42; cases c42
            | some c => exact ⟨c, rfl⟩
          have hc := hR.wf.1 j i c hj hi hn
          rw [hn] at h ⊢
          change cd_Go G l C _ _ _ _ _ [some (.ref x), some (.int (nI j)), some (.int (nI i)), some (.ref (A 8 c 0 0))] []
          first | refine g_aload_n O 3 d_Cd_slot_47 rfl rfl ?_ | refine g_aload_nq O 3 d_Cd_slot_47 rfl rfl ?_
          refine g_getV O c_Ca 6 (by decide) rfl (hR.c hc).2.1 lk_Cd_116 d_Cd_slot_48 (hR.c hc).2.2.2.2.2.2.2.2 ?_
          refine g_if_eq  O 58 d_Cd_slot_51 (by decide) (fun c51 => ?_) (fun c51 => ?_)
          · try simp only at h
            rw [if_neg (by rw [cd_b_eq.mp c51]; decide)] at h
            refine g_iconst (v := 1) O d_Cd_slot_58 (by decide) ?_
            refine g_iret O d_Cd_slot_59 (Nat.le_of_ble_eq_true rfl) (Nat.le_of_ble_eq_true rfl) ?_
            exact h
          · try simp only at h
            rw [if_pos (cd_b_ne.mp c51)] at h
            refine g_iconst (v := 2) O d_Cd_slot_54 (by decide) ?_
            refine g_goto O 59 d_Cd_slot_55 (by decide) ?_
            refine g_iret O d_Cd_slot_59 (Nat.le_of_ble_eq_true rfl) (Nat.le_of_ble_eq_true rfl) ?_
            exact h
        · have hn : sS σ j i = none := by cases hz : sS σ j i with
            | none => rfl
            | some c => rw [hz] at c42; cases c42
          rw [hn] at h
          refine g_iconst (v := 0) O d_Cd_slot_45 (by decide) ?_
          refine g_iret O d_Cd_slot_46 (Nat.le_of_ble_eq_true rfl) (Nat.le_of_ble_eq_true rfl) ?_
          exact h
      · rw [if_neg (by rw [cd_b_eq.mp c24]; decide)] at h
        refine g_iconst (v := -1) O d_Cd_slot_27 (by decide) ?_
        refine g_iret O d_Cd_slot_28 (Nat.le_of_ble_eq_true rfl) (Nat.le_of_ble_eq_true rfl) ?_
        exact h
set_option maxHeartbeats 4000000 in
set_option maxRecDepth 100000 in
theorem op_count {G : cd_Gl} {l : Launch} {w : cd_Wd} {Q : cd_Out → cd_Wd → Prop} {x : Nat} {A : cd_A} {σ : cd_S} (hR : cd_Rep w x A σ) {a : Int32} (h : Q (.inl (some (.int (sv_count σ a)))) w) : cd_Ct G l y_Cd_count 2 0 0 [.ref x, .int a] w Q := by
  refine cd_ofW cw_Cd_count (by simp [Value.category, cat_rf]) (Nat.le_of_ble_eq_true rfl) fun C O => ?_
  change cd_Go G l C _ 0 0 w 0 [some (.ref x), some (.int a)] []
  refine g_iload_n O 1 d_Cd_count_0 rfl rfl ?_
  have hcase : a = 0 ∨ a = 1 ∨ a = 2 ∨ a = 3 ∨ (a.toInt < 0 ∨ 3 < a.toInt) ∧ ¬ a = 0 ∧ ¬ a = 1 ∧ ¬ a = 2 ∧ ¬ a = 3 := by
    by_cases h0 : a = 0
    · exact Or.inl h0
    · by_cases h1 : a = 1
      · exact Or.inr (Or.inl h1)
      · by_cases h2 : a = 2
        · exact Or.inr (Or.inr (Or.inl h2))
        · by_cases h3 : a = 3
          · exact Or.inr (Or.inr (Or.inr (Or.inl h3)))
          · refine Or.inr (Or.inr (Or.inr (Or.inr ⟨?_, h0, h1, h2, h3⟩)))
            have g0 := lv_neT (a := 0) h0 (by decide)
            have g1 := lv_neT (a := 1) h1 (by decide)
            have g2 := lv_neT (a := 2) h2 (by decide)
            have g3 := lv_neT (a := 3) h3 (by decide)
            omega
  unfold sv_count at h
  rcases hcase with hc | hc | hc | hc | ⟨hc, n0, n1, n2, n3⟩
  · refine g_tabI O 0 32 d_Cd_count_1 (by assumption) rfl (by decide) (by decide) rfl (by decide) ?_
    rw [if_pos hc] at h
    first | refine g_aload_n O 0 d_Cd_count_32 rfl rfl ?_ | refine g_aload_nq O 0 d_Cd_count_32 rfl rfl ?_
    refine g_getV O c_Cd 1 (by decide) rfl hR.top.1 lk_Cd_28 d_Cd_count_33 hR.top.2.2.2.2.2.2.2.2.2.2.2.2.2.2.2.2.2.2.1 ?_
    refine g_iret O d_Cd_count_36 (Nat.le_of_ble_eq_true rfl) (Nat.le_of_ble_eq_true rfl) ?_
    exact h
  · refine g_tabI O 1 37 d_Cd_count_1 (by assumption) rfl (by decide) (by decide) rfl (by decide) ?_
    subst hc
    rw [if_neg (by decide), if_pos rfl] at h
    first | refine g_aload_n O 0 d_Cd_count_37 rfl rfl ?_ | refine g_aload_nq O 0 d_Cd_count_37 rfl rfl ?_
    refine g_callv (N := 0) (mc := 0) (ms := 0) (av := []) O (Or.inl ⟨_, _, cw_Cd_livingDomains⟩) pl_Cd (ci := 0) (q := q_Cd) rfl hR.top.1 ml_Cd_230 im_Cd_livingDomains se_Cd_livingDomains rfl d_Cd_count_38 rfl (Nat.le_of_ble_eq_true rfl) (Nat.le_of_ble_eq_true rfl) (Nat.le_of_ble_eq_true rfl) (Nat.le_of_ble_eq_true rfl) ?_
    refine ct_Cd_livingDomains hR ?_
    change cd_Go _ _ _ _ _ _ _ _ _ _
    refine g_iret O d_Cd_count_41 (Nat.le_of_ble_eq_true rfl) (Nat.le_of_ble_eq_true rfl) ?_
    exact h
  · refine g_tabI O 2 42 d_Cd_count_1 (by assumption) rfl (by decide) (by decide) rfl (by decide) ?_
    subst hc
    rw [if_neg (by decide), if_neg (by decide), if_pos rfl] at h
    first | refine g_aload_n O 0 d_Cd_count_42 rfl rfl ?_ | refine g_aload_nq O 0 d_Cd_count_42 rfl rfl ?_
    refine g_getV O c_Cd 3 (by decide) rfl hR.top.1 lk_Cd_233 d_Cd_count_43 hR.top.2.2.2.2.2.2.2.2.2.2.2.2.2.2.2.2.2.2.2.2.1 ?_
    refine g_iret O d_Cd_count_46 (Nat.le_of_ble_eq_true rfl) (Nat.le_of_ble_eq_true rfl) ?_
    exact h
  · refine g_tabI O 3 47 d_Cd_count_1 (by assumption) rfl (by decide) (by decide) rfl (by decide) ?_
    subst hc
    rw [if_neg (by decide), if_neg (by decide), if_neg (by decide), if_pos rfl] at h
    first | refine g_aload_n O 0 d_Cd_count_47 rfl rfl ?_ | refine g_aload_nq O 0 d_Cd_count_47 rfl rfl ?_
    refine g_callv (N := 0) (mc := 0) (ms := 0) (av := []) O (Or.inl ⟨_, _, cw_Cd_livingCapabilities⟩) pl_Cd (ci := 0) (q := q_Cd) rfl hR.top.1 ml_Cd_236 im_Cd_livingCapabilities se_Cd_livingCapabilities rfl d_Cd_count_48 rfl (Nat.le_of_ble_eq_true rfl) (Nat.le_of_ble_eq_true rfl) (Nat.le_of_ble_eq_true rfl) (Nat.le_of_ble_eq_true rfl) ?_
    refine ct_Cd_livingCapabilities hR ?_
    change cd_Go _ _ _ _ _ _ _ _ _ _
    refine g_iret O d_Cd_count_51 (Nat.le_of_ble_eq_true rfl) (Nat.le_of_ble_eq_true rfl) ?_
    exact h
  · refine g_tabO O 52 d_Cd_count_1 (by assumption) (by decide) ?_
    rw [if_neg n0, if_neg n1, if_neg n2, if_neg n3] at h
    refine g_iload_n O 1 d_Cd_count_52 rfl rfl ?_
    refine g_iconst (v := 4) O d_Cd_count_53 (by decide) ?_
    refine g_icmp_lt  O 73 d_Cd_count_54 (by decide) (fun c54 => ?_) (fun c54 => ?_)
    · rw [if_pos c54] at h
      refine g_iconst (v := -1) O d_Cd_count_73 (by decide) ?_
      refine g_iret O d_Cd_count_74 (Nat.le_of_ble_eq_true rfl) (Nat.le_of_ble_eq_true rfl) ?_
      exact h
    · rw [if_neg c54] at h
      refine g_iload_n O 1 d_Cd_count_57 rfl rfl ?_
      refine g_bipush (v := 10) O d_Cd_count_58 (by decide) ?_
      refine g_icmp_ge  O 73 d_Cd_count_60 (by decide) (fun c60 => ?_) (fun c60 => ?_)
      · rw [if_pos c60] at h
        refine g_iconst (v := -1) O d_Cd_count_73 (by decide) ?_
        refine g_iret O d_Cd_count_74 (Nat.le_of_ble_eq_true rfl) (Nat.le_of_ble_eq_true rfl) ?_
        exact h
      · rw [if_neg c60] at h
        first | refine g_aload_n O 0 d_Cd_count_63 rfl rfl ?_ | refine g_aload_nq O 0 d_Cd_count_63 rfl rfl ?_
        refine g_iload_n O 1 d_Cd_count_64 rfl rfl ?_
        refine g_iconst (v := 4) O d_Cd_count_65 (by decide) ?_
        refine g_isub O d_Cd_count_66 ?_
        refine g_callv (N := 1) (mc := 0) (ms := 0) (av := [_]) O (Or.inl ⟨_, _, cw_Cd_objectsOf⟩) pl_Cd (ci := 0) (q := q_Cd) rfl hR.top.1 ml_Cd_239 im_Cd_objectsOf se_Cd_objectsOf rfl d_Cd_count_67 rfl (Nat.le_of_ble_eq_true rfl) (Nat.le_of_ble_eq_true rfl) (Nat.le_of_ble_eq_true rfl) (Nat.le_of_ble_eq_true rfl) ?_
        refine ct_Cd_objectsOf hR ?_
        change cd_Go _ _ _ _ _ _ _ _ _ _
        refine g_goto O 74 d_Cd_count_70 (by decide) ?_
        refine g_iret O d_Cd_count_74 (Nat.le_of_ble_eq_true rfl) (Nat.le_of_ble_eq_true rfl) ?_
        exact h
/-- the state at the beginning -/
def cd_s0 : cd_S := (0, 0, fun _ => false, fun _ _ => false, fun _ _ _ => zF, fun _ _ => none, fun _ => (0, 0, none, 0, 0, false, false))
theorem cd_Iv0 : cd_Iv cd_s0 := ⟨fun d _ => ⟨rfl, fun _ => rfl, fun _ _ => rfl, fun _ => rfl⟩, fun c hc => absurd hc (Nat.not_lt_zero c), fun d o f => ⟨fun h => absurd rfl h, fun h => absurd rfl h⟩, fun d o f t hd => absurd hd (Nat.not_lt_zero d), fun d h => by cases h⟩
set_option maxHeartbeats 4000000 in
set_option maxRecDepth 100000 in
theorem op_init {G : cd_Gl} {l : Launch} {w : cd_Wd} {Q : cd_Out → cd_Wd → Prop} {x : Nat} (hx : cd_kd w x = 2) (hi1 : cd_I w 1 x 0 = 0) (hi3 : cd_I w 3 x 0 = 0) (h : ∀ w' A, cd_Rep w' x A cd_s0 → cd_Fr w w' (fun y => y = x) → (∀ a, cd_ow x A cd_s0 a → a = x ∨ cd_kd w a = 0) → Q (.inl none) w') : cd_Ct G l y_Cd_init 2 6 87 [.ref x] w Q := by
  refine cd_ofW cw_Cd_init (by simp [Value.category, cat_rf]) (Nat.le_of_ble_eq_true rfl) fun C O => ?_
  change cd_Go G l C _ 0 0 w 0 [some (.ref x)] []
  first | refine g_aload_n O 0 d_Cd_init_0 rfl rfl ?_ | refine g_aload_nq O 0 d_Cd_init_0 rfl rfl ?_
  refine g_obj O ml_Cd_1 im_JO_init cw_JO_init d_Cd_init_1 rfl (Nat.le_of_ble_eq_true rfl) (Nat.le_of_ble_eq_true rfl) ?_
  first | refine g_aload_n O 0 d_Cd_init_4 rfl rfl ?_ | refine g_aload_nq O 0 d_Cd_init_4 rfl rfl ?_
  refine g_bipush (v := 6) O d_Cd_init_5 (by decide) ?_
  refine g_anew (N := 6) O 3 rfl rfl kl_Cd_9 d_Cd_init_7 (by decide) (by decide) (by decide) (Nat.le_of_ble_eq_true rfl) (Nat.le_of_ble_eq_true rfl) (fun b7 z7 => ?_)
  have a1 : ¬ x = b7 := fun e => by rw [e, z7] at hx; cases hx
  first | refine g_putS O c_Cd 0 (by decide) rfl (by rw [kd_wN, if_neg a1]; exact hx) (Or.inr ⟨rfl, rfl, rfl⟩) lk_Cd_11 d_Cd_init_10 ?_ | refine g_putO O c_Cd 0 (by decide) rfl (by rw [kd_wN, if_neg a1]; exact hx) (Or.inr ⟨rfl, rfl, rfl⟩) lk_Cd_11 d_Cd_init_10 ?_
  first | refine g_aload_n O 0 d_Cd_init_13 rfl rfl ?_ | refine g_aload_nq O 0 d_Cd_init_13 rfl rfl ?_
  refine g_bipush (v := 40) O d_Cd_init_14 (by decide) ?_
  refine g_anew (N := 40) O 6 rfl rfl kl_Cd_15 d_Cd_init_16 (by decide) (by decide) (by decide) (Nat.le_of_ble_eq_true rfl) (Nat.le_of_ble_eq_true rfl) (fun b16 z16 => ?_)
  rw [kd_wO, kd_wN] at z16
  split at z16
  · cases z16
  next y16 =>
  have a2 : ¬ x = b16 := fun e => by rw [e, z16] at hx; cases hx
  first | refine g_putS O c_Cd 2 (by decide) rfl (by rw [kd_wN, if_neg a2, kd_wO, kd_wN, if_neg a1]; exact hx) (Or.inr ⟨rfl, rfl, rfl⟩) lk_Cd_17 d_Cd_init_19 ?_ | refine g_putO O c_Cd 2 (by decide) rfl (by rw [kd_wN, if_neg a2, kd_wO, kd_wN, if_neg a1]; exact hx) (Or.inr ⟨rfl, rfl, rfl⟩) lk_Cd_17 d_Cd_init_19 ?_
  first | refine g_aload_n O 0 d_Cd_init_22 rfl rfl ?_ | refine g_aload_nq O 0 d_Cd_init_22 rfl rfl ?_
  refine g_new O c_Re kl_Cd_21 ia_Re in_Re d_Cd_init_23 (Nat.le_of_ble_eq_true rfl) (Nat.le_of_ble_eq_true rfl) (fun b23 z23 => ?_)
  refine g_dup O d_Cd_init_26 (by first | rfl | exact cat_rf _) ?_
  refine g_calli (N := 1) (mc := 3) (ms := 36) (av := []) O cw_Re_init pl_Re rfl ml_Cd_23 im_Re_init rfl d_Cd_init_27 rfl (Nat.le_of_ble_eq_true rfl) (Nat.le_of_ble_eq_true rfl) (Nat.le_of_ble_eq_true rfl) (Nat.le_of_ble_eq_true rfl) ?_
  refine ct_Re_init (by rw [kd_wN, if_pos rfl]) (fun r1 r2 r3 zr1 zr2 zr3 n12 n13 n23 => ?_)
  rw [kd_wO, kd_wN] at z23
  split at z23
  · cases z23
  next y23 =>
  rw [kd_wO, kd_wN] at z23
  split at z23
  · cases z23
  next y24 =>
  have a3 : ¬ x = b23 := fun e => by rw [e, z23] at hx; cases hx
  have fr : ∀ r, cd_kd (cd_wN (cd_wO (cd_wN (cd_wO (cd_wN w b7 7 6) 0 x 0 (some b7)) b16 13 40) 2 x 0 (some b16)) b23 12 0) r = 0 → ¬ r = b23 ∧ ¬ r = b16 ∧ ¬ r = b7 ∧ ¬ r = x ∧ cd_kd w r = 0 := by
    intro r hr
    simp only [kd_wN, kd_wO] at hr
    split at hr
    · cases hr
    · next e1 =>
      split at hr
      · cases hr
      · next e2 =>
        split at hr
        · cases hr
        · next e3 => exact ⟨e1, e2, e3, (fun e => by rw [e, hx] at hr; cases hr), hr⟩
  obtain ⟨p1, p2, p3, p4, p5⟩ := fr r1 zr1
  obtain ⟨s1, s2, s3, s4, s5⟩ := fr r2 zr2
  obtain ⟨u1, u2, u3, u4, u5⟩ := fr r3 zr3
  change cd_Go _ _ _ _ _ _ _ _ _ _
  first | refine g_putS O c_Cd 4 (by decide) rfl (by simp [kd_wO, kd_wN, a1, a2, a3, Ne.symm p4, Ne.symm s4, Ne.symm u4, hx]) (Or.inr ⟨rfl, rfl, rfl⟩) lk_Cd_24 d_Cd_init_30 ?_ | refine g_putO O c_Cd 4 (by decide) rfl (by simp [kd_wO, kd_wN, a1, a2, a3, Ne.symm p4, Ne.symm s4, Ne.symm u4, hx]) (Or.inr ⟨rfl, rfl, rfl⟩) lk_Cd_24 d_Cd_init_30 ?_
  refine g_ret O d_Cd_init_33 (Nat.le_of_ble_eq_true rfl) (Nat.le_of_ble_eq_true rfl) ?_
  refine h _ (fun k _ _ _ => match k with
    | 0 => b7
    | 7 => b16
    | 9 => b23
    | 10 => r1
    | 11 => r2
    | _ => r3) ⟨?_, fun d hd => absurd hd (Nat.not_lt_zero d), fun d o hd => absurd hd (Nat.not_lt_zero d), fun d o f hd => absurd hd (Nat.not_lt_zero d), fun d i hd => absurd hd (Nat.not_lt_zero d), fun c hc => absurd hc (Nat.not_lt_zero c), ?_, ?_⟩ ?_ ?_
  · unfold rp_x
    simp [kd_wO, kd_wN, ln_wO, ln_wN, O_wO, O_wN, I_wO, I_wN, a1, a2, a3, p1, p2, p3, p4, s1, s2, s3, s4, u1, u2, u3, u4, Ne.symm p1, Ne.symm p2, Ne.symm p3, Ne.symm p4, Ne.symm s1, Ne.symm s2, Ne.symm s3, Ne.symm s4, Ne.symm u1, Ne.symm u2, Ne.symm u3, Ne.symm u4, n12, n13, n23, Ne.symm n12, Ne.symm n13, Ne.symm n23, y16, y23, y24, Ne.symm y16, Ne.symm y23, Ne.symm y24, hx, hi1, hi3, sD, sC, cd_s0, nI_0]
  · intro k d o f k' d' o' f' hv hv' he
    have hk : ∀ k d o f, cd_va cd_s0 k d o f → (k = 0 ∨ k = 7 ∨ k = 9 ∨ k = 10 ∨ k = 11 ∨ k = 12) ∧ d = 0 ∧ o = 0 ∧ f = 0 := by
      intro k d o f hv
      match k, hv with
      | 0, hv => exact ⟨by omega, hv⟩
      | 1, hv => exact absurd hv.1 (Nat.not_lt_zero _)
      | 2, hv => exact absurd hv.1 (Nat.not_lt_zero _)
      | 3, hv => exact absurd hv.1 (Nat.not_lt_zero _)
      | 4, hv => exact absurd hv.1 (Nat.not_lt_zero _)
      | 5, hv => exact absurd hv.1 (Nat.not_lt_zero _)
      | 6, hv => exact absurd hv.1 (Nat.not_lt_zero _)
      | 7, hv => exact ⟨by omega, hv⟩
      | 8, hv => exact absurd hv.1 (Nat.not_lt_zero _)
      | 9, hv => exact ⟨by omega, hv⟩
      | 10, hv => exact ⟨by omega, hv⟩
      | 11, hv => exact ⟨by omega, hv⟩
      | 12, hv => exact ⟨by omega, hv⟩
      | k + 13, hv => exact hv.elim
    obtain ⟨c1, rfl, rfl, rfl⟩ := hk _ _ _ _ hv
    obtain ⟨c2, rfl, rfl, rfl⟩ := hk _ _ _ _ hv'
    refine ⟨?_, rfl, rfl, rfl⟩
    rcases c1 with rfl | rfl | rfl | rfl | rfl | rfl <;> rcases c2 with rfl | rfl | rfl | rfl | rfl | rfl <;> first | rfl | (exfalso; simp only at he; first | exact y16 he | exact y16 he.symm | exact y23 he | exact y23 he.symm | exact y24 he | exact y24 he.symm | exact p1 he | exact p1 he.symm | exact p2 he | exact p2 he.symm | exact p3 he | exact p3 he.symm | exact s1 he | exact s1 he.symm | exact s2 he | exact s2 he.symm | exact s3 he | exact s3 he.symm | exact u1 he | exact u1 he.symm | exact u2 he | exact u2 he.symm | exact u3 he | exact u3 he.symm | exact n12 he | exact n12 he.symm | exact n13 he | exact n13 he.symm | exact n23 he | exact n23 he.symm)
  · exact ⟨fun d i c hd => absurd hd (Nat.not_lt_zero d), fun d o f c hd => absurd hd (Nat.not_lt_zero d), fun d o f t hd => absurd hd (Nat.not_lt_zero d), fun c hc => absurd hc (Nat.not_lt_zero c)⟩
  · intro y hy
    have e1 : ¬ y = b7 := fun e => hy (e ▸ z7)
    have e2 : ¬ y = b16 := fun e => hy (e ▸ z16)
    have e3 : ¬ y = b23 := fun e => hy (e ▸ z23)
    have e4 : ¬ y = r1 := fun e => hy (e ▸ p5)
    have e5 : ¬ y = r2 := fun e => hy (e ▸ s5)
    have e6 : ¬ y = r3 := fun e => hy (e ▸ u5)
    refine ⟨by simp [kd_wO, kd_wN, e1, e2, e3, e4, e5, e6], by simp [ln_wO, ln_wN, e1, e2, e3, e4, e5, e6], fun hn => ⟨fun t j => by simp [I_wO, I_wN, e1, e2, e3, e4, e5, e6], fun t j => by simp [O_wO, O_wN, e1, e2, e3, e4, e5, e6, hn], fun j => by simp [J_wO, J_wN, e1, e2, e3, e4, e5, e6]⟩⟩
  · rintro a (rfl | ⟨k, d, o, f, hv, rfl⟩)
    · exact Or.inl rfl
    · right
      match k, hv with
      | 0, hv => exact z7
      | 1, hv => exact absurd hv.1 (Nat.not_lt_zero _)
      | 2, hv => exact absurd hv.1 (Nat.not_lt_zero _)
      | 3, hv => exact absurd hv.1 (Nat.not_lt_zero _)
      | 4, hv => exact absurd hv.1 (Nat.not_lt_zero _)
      | 5, hv => exact absurd hv.1 (Nat.not_lt_zero _)
      | 6, hv => exact absurd hv.1 (Nat.not_lt_zero _)
      | 7, hv => exact z16
      | 8, hv => exact absurd hv.1 (Nat.not_lt_zero _)
      | 9, hv => exact z23
      | 10, hv => exact p5
      | 11, hv => exact s5
      | 12, hv => exact u5
      | k + 13, hv => exact hv.elim
