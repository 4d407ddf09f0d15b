/-- a field of the copy, in the reference's two numbers -/
theorem cpF_S {cn : Nat → Nat} {t : Int32 × Option Nat × Option Nat} (ho : fOk t) : fS (cpF cn t) = fS t := by
  obtain ⟨n, lk, cp⟩ := t
  cases lk with
  | some z =>
    have := ho.1 (fun e => by cases e)
    simp only at this
    rw [this.2]; rfl
  | none => cases cp <;> rfl
theorem cpF_V1 {cn : Nat → Nat} {n : Int32} {z : Nat} {cp : Option Nat} : fV (cpF cn (n, some z, cp)) = nI (cn z) := rfl
theorem cpF_Vn {cn : Nat → Nat} {t : Int32 × Option Nat × Option Nat} (hl : t.2.1 = none) : fV (cpF cn t) = fV t := by
  obtain ⟨n, lk, cp⟩ := t
  simp only at hl
  subst hl
  cases cp <;> rfl
def gf (w : cd_Wd) (m : Nat) (B : Nat → Nat) (L : List Nat) : Prop := cd_I w 209 m 0 = nI L.length ∧ ∀ i, i < L.length → cd_I w 1000 (B 13) i = nI (L.getD i 0)
theorem gf.fr {w v : cd_Wd} {m : Nat} {B : Nat → Nat} {σ : cd_S} {g : Nat → Bool} {L : List Nat} {P : Nat → Prop} (h : gf w m B L) (hM : RepM w m B σ g) (hF : cd_Fr w v P) (h1 : ¬ P m) (h2 : ¬ P (B 13)) : gf v m B L :=
  ⟨(hF.I (by rw [hM.km]; decide) h1 _ _).trans h.1, fun i hi => (hF.I (by rw [(hM.a 13 (by omega) (by omega)).2.1]; decide) h2 _ _).trans (h.2 i hi)⟩
theorem cpF_cp {cn : Nat → Nat} {t : Int32 × Option Nat × Option Nat} {y : Nat} (h : (cpF cn t).2.2 = some y) : t.2.2 = some y := by
  obtain ⟨n, lk, cp⟩ := t
  cases lk with
  | some z => cases h
  | none =>
    cases cp with
    | none => cases h
    | some c => exact h
set_option maxHeartbeats 4000000 in
set_option maxRecDepth 100000 in
theorem om_pass {G : cd_Gl} {l : Launch} {w : cd_Wd} {Q : cd_Out → cd_Wd → Prop} {m : Nat} {B : Nat → Nat} {σ : cd_S} {g : Nat → Bool} (hM : RepM w m B σ g) (hL : Rel σ g) (hI : cd_Iv σ) {d s f o : Int32} {r : cd_R} (hr : sp_pass σ d s f o = r) (h : MC w m B r Q) : cd_Ct G l y_Mo_pass 4 0 0 [.ref m, .int d, .int s, .int f, .int o] w Q := by
  refine cd_ofW cw_Mo_pass (by simp [Value.category, cat_rf]) (Nat.le_of_ble_eq_true rfl) fun C O => ?_
  change cd_Go G l C _ 0 0 w 0 [some (.ref m), some (.int d), some (.int s), some (.int f), some (.int o), none, none, none, none, none, none, none] []
  first | refine g_aload_n O 0 d_Mo_pass_0 rfl rfl ?_ | refine g_aload_nq O 0 d_Mo_pass_0 rfl rfl ?_
  refine g_iload_n O 1 d_Mo_pass_1 rfl rfl ?_
  refine g_iload_n O 2 d_Mo_pass_2 rfl rfl ?_
  refine g_iconst (v := 4) O d_Mo_pass_3 (by decide) ?_
  refine g_callv (N := 2) (mc := 0) (ms := 0) (av := [_, _, _]) O (Or.inl ⟨_, _, cw_Mo_useFails⟩) pl_Mo (ci := 6) (q := q_Mo) rfl hM.km ml_Mo_111 im_Mo_useFails se_Mo_useFails rfl d_Mo_pass_4 rfl (Nat.le_of_ble_eq_true rfl) (Nat.le_of_ble_eq_true rfl) (Nat.le_of_ble_eq_true rfl) (Nat.le_of_ble_eq_true rfl) ?_
  refine ct_Mo_useFails hM hL (Or.inr (Or.inr (Or.inl rfl))) (fun e => ?_) (fun j i hjj ej hii ei hej => ?_) (fun j i hjj ej hii ei hej hs => ?_) (fun j i c hjj ej hii ei hej hs hc hxu => ?_) (fun j i c hjj ej hii ei hej hs hc hxu hal => ?_) (fun j i c hjj ej hii ei hej hs hc hxu hal => ?_)
  · simp [sp_pass, rD, rF, rS, rU, e] at hr
    subst hr
    change cd_Go _ _ _ _ _ _ _ _ _ _
    refine g_istore O d_Mo_pass_7 (Nat.le_of_ble_eq_true rfl) ?_
    refine g_iload O d_Mo_pass_9 rfl ?_
    refine g_if_eq  O 21 d_Mo_pass_11 (by decide) (fun c11 => ?_) (fun c11 => ?_)
    · exact absurd c11 (by decide)
    · first | refine g_aload_n O 0 d_Mo_pass_14 rfl rfl ?_ | refine g_aload_nq O 0 d_Mo_pass_14 rfl rfl ?_
      refine g_iload O d_Mo_pass_15 rfl ?_
      refine g_callv (N := 0) (mc := 0) (ms := 0) (av := [_]) O (Or.inl ⟨_, _, cw_Mo_fail⟩) pl_Mo (ci := 6) (q := q_Mo) rfl hM.km ml_Mo_84 im_Mo_fail se_Mo_fail rfl d_Mo_pass_17 rfl (Nat.le_of_ble_eq_true rfl) (Nat.le_of_ble_eq_true rfl) (Nat.le_of_ble_eq_true rfl) (Nat.le_of_ble_eq_true rfl) ?_
      refine ct_Mo_fail hM.km ?_
      change cd_Go _ _ _ _ _ _ _ _ _ _
      refine g_iret O d_Mo_pass_20 (Nat.le_of_ble_eq_true rfl) (Nat.le_of_ble_eq_true rfl) ?_
      exact MC.fail (c := 1) (by decide) hM hL cd_Fr.rf h
  · subst ej ei
    have h6j : j < 6 := Nat.lt_of_lt_of_le hjj hM.D6
    have hclj : (nI j).toNatClampNeg = j := nI_clamp (by omega)
    have hcli : (nI i).toNatClampNeg = i := nI_clamp (by omega)
    have hDj : isD σ (nI j) = true := isD_nI hjj hM.D6
    have hSi : isSl (nI i) = true := isSl_nI hii
    simp [sp_pass, rD, rF, rS, rU, hDj, hSi, hclj, hcli, hej] at hr
    subst hr
    change cd_Go _ _ _ _ _ _ _ _ _ _
    refine g_istore O d_Mo_pass_7 (Nat.le_of_ble_eq_true rfl) ?_
    refine g_iload O d_Mo_pass_9 rfl ?_
    refine g_if_eq  O 21 d_Mo_pass_11 (by decide) (fun c11 => ?_) (fun c11 => ?_)
    · exact absurd c11 (by decide)
    · first | refine g_aload_n O 0 d_Mo_pass_14 rfl rfl ?_ | refine g_aload_nq O 0 d_Mo_pass_14 rfl rfl ?_
      refine g_iload O d_Mo_pass_15 rfl ?_
      refine g_callv (N := 0) (mc := 0) (ms := 0) (av := [_]) O (Or.inl ⟨_, _, cw_Mo_fail⟩) pl_Mo (ci := 6) (q := q_Mo) rfl hM.km ml_Mo_84 im_Mo_fail se_Mo_fail rfl d_Mo_pass_17 rfl (Nat.le_of_ble_eq_true rfl) (Nat.le_of_ble_eq_true rfl) (Nat.le_of_ble_eq_true rfl) (Nat.le_of_ble_eq_true rfl) ?_
      refine ct_Mo_fail hM.km ?_
      change cd_Go _ _ _ _ _ _ _ _ _ _
      refine g_iret O d_Mo_pass_20 (Nat.le_of_ble_eq_true rfl) (Nat.le_of_ble_eq_true rfl) ?_
      exact MC.fail (c := 2) (by decide) hM hL cd_Fr.rf h
  · subst ej ei
    have h6j : j < 6 := Nat.lt_of_lt_of_le hjj hM.D6
    have hclj : (nI j).toNatClampNeg = j := nI_clamp (by omega)
    have hcli : (nI i).toNatClampNeg = i := nI_clamp (by omega)
    have hDj : isD σ (nI j) = true := isD_nI hjj hM.D6
    have hSi : isSl (nI i) = true := isSl_nI hii
    simp [sp_pass, rD, rF, rS, rU, hDj, hSi, hclj, hcli, hej, hs] at hr
    subst hr
    change cd_Go _ _ _ _ _ _ _ _ _ _
    refine g_istore O d_Mo_pass_7 (Nat.le_of_ble_eq_true rfl) ?_
    refine g_iload O d_Mo_pass_9 rfl ?_
    refine g_if_eq  O 21 d_Mo_pass_11 (by decide) (fun c11 => ?_) (fun c11 => ?_)
    · exact absurd c11 (by decide)
    · first | refine g_aload_n O 0 d_Mo_pass_14 rfl rfl ?_ | refine g_aload_nq O 0 d_Mo_pass_14 rfl rfl ?_
      refine g_iload O d_Mo_pass_15 rfl ?_
      refine g_callv (N := 0) (mc := 0) (ms := 0) (av := [_]) O (Or.inl ⟨_, _, cw_Mo_fail⟩) pl_Mo (ci := 6) (q := q_Mo) rfl hM.km ml_Mo_84 im_Mo_fail se_Mo_fail rfl d_Mo_pass_17 rfl (Nat.le_of_ble_eq_true rfl) (Nat.le_of_ble_eq_true rfl) (Nat.le_of_ble_eq_true rfl) (Nat.le_of_ble_eq_true rfl) ?_
      refine ct_Mo_fail hM.km ?_
      change cd_Go _ _ _ _ _ _ _ _ _ _
      refine g_iret O d_Mo_pass_20 (Nat.le_of_ble_eq_true rfl) (Nat.le_of_ble_eq_true rfl) ?_
      exact MC.fail (c := 3) (by decide) hM hL cd_Fr.rf h
  · subst ej ei
    have h6j : j < 6 := Nat.lt_of_lt_of_le hjj hM.D6
    have hclj : (nI j).toNatClampNeg = j := nI_clamp (by omega)
    have hcli : (nI i).toNatClampNeg = i := nI_clamp (by omega)
    have hDj : isD σ (nI j) = true := isD_nI hjj hM.D6
    have hSi : isSl (nI i) = true := isSl_nI hii
    have hxu := Bool.or_eq_true_iff.mp hxu
    simp [sp_pass, rD, rF, rS, rU, hDj, hSi, hclj, hcli, hej, hs, hxu] at hr
    subst hr
    change cd_Go _ _ _ _ _ _ _ _ _ _
    refine g_istore O d_Mo_pass_7 (Nat.le_of_ble_eq_true rfl) ?_
    refine g_iload O d_Mo_pass_9 rfl ?_
    refine g_if_eq  O 21 d_Mo_pass_11 (by decide) (fun c11 => ?_) (fun c11 => ?_)
    · exact absurd c11 (by decide)
    · first | refine g_aload_n O 0 d_Mo_pass_14 rfl rfl ?_ | refine g_aload_nq O 0 d_Mo_pass_14 rfl rfl ?_
      refine g_iload O d_Mo_pass_15 rfl ?_
      refine g_callv (N := 0) (mc := 0) (ms := 0) (av := [_]) O (Or.inl ⟨_, _, cw_Mo_fail⟩) pl_Mo (ci := 6) (q := q_Mo) rfl hM.km ml_Mo_84 im_Mo_fail se_Mo_fail rfl d_Mo_pass_17 rfl (Nat.le_of_ble_eq_true rfl) (Nat.le_of_ble_eq_true rfl) (Nat.le_of_ble_eq_true rfl) (Nat.le_of_ble_eq_true rfl) ?_
      refine ct_Mo_fail hM.km ?_
      change cd_Go _ _ _ _ _ _ _ _ _ _
      refine g_iret O d_Mo_pass_20 (Nat.le_of_ble_eq_true rfl) (Nat.le_of_ble_eq_true rfl) ?_
      exact MC.fail (c := 2) (by decide) hM hL cd_Fr.rf h
  · subst ej ei
    have h6j : j < 6 := Nat.lt_of_lt_of_le hjj hM.D6
    have hclj : (nI j).toNatClampNeg = j := nI_clamp (by omega)
    have hcli : (nI i).toNatClampNeg = i := nI_clamp (by omega)
    have hDj : isD σ (nI j) = true := isD_nI hjj hM.D6
    have hSi : isSl (nI i) = true := isSl_nI hii
    have hxu := Bool.or_eq_false_iff.mp hxu
    simp [sp_pass, rD, rF, rS, rU, hDj, hSi, hclj, hcli, hej, hs, hxu, hal] at hr
    subst hr
    change cd_Go _ _ _ _ _ _ _ _ _ _
    refine g_istore O d_Mo_pass_7 (Nat.le_of_ble_eq_true rfl) ?_
    refine g_iload O d_Mo_pass_9 rfl ?_
    refine g_if_eq  O 21 d_Mo_pass_11 (by decide) (fun c11 => ?_) (fun c11 => ?_)
    · exact absurd c11 (by decide)
    · first | refine g_aload_n O 0 d_Mo_pass_14 rfl rfl ?_ | refine g_aload_nq O 0 d_Mo_pass_14 rfl rfl ?_
      refine g_iload O d_Mo_pass_15 rfl ?_
      refine g_callv (N := 0) (mc := 0) (ms := 0) (av := [_]) O (Or.inl ⟨_, _, cw_Mo_fail⟩) pl_Mo (ci := 6) (q := q_Mo) rfl hM.km ml_Mo_84 im_Mo_fail se_Mo_fail rfl d_Mo_pass_17 rfl (Nat.le_of_ble_eq_true rfl) (Nat.le_of_ble_eq_true rfl) (Nat.le_of_ble_eq_true rfl) (Nat.le_of_ble_eq_true rfl) ?_
      refine ct_Mo_fail hM.km ?_
      change cd_Go _ _ _ _ _ _ _ _ _ _
      refine g_iret O d_Mo_pass_20 (Nat.le_of_ble_eq_true rfl) (Nat.le_of_ble_eq_true rfl) ?_
      exact MC.fail (c := 4) (by decide) hM hL cd_Fr.rf h
  subst ej ei
  have h6j : j < 6 := Nat.lt_of_lt_of_le hjj hM.D6
  have hclj : (nI j).toNatClampNeg = j := nI_clamp (by omega)
  have hcli : (nI i).toNatClampNeg = i := nI_clamp (by omega)
  have hDj : isD σ (nI j) = true := isD_nI hjj hM.D6
  have hSi : isSl (nI i) = true := isSl_nI hii
  have hxu := Bool.or_eq_false_iff.mp hxu
  obtain ⟨l1, l2, l3⟩ := hI.lv hc hxu.1
  have hw := hM.hw hc
  have hC := hM.C40
  change cd_Go _ _ _ _ _ _ _ _ _ _
  refine g_istore O d_Mo_pass_7 (Nat.le_of_ble_eq_true rfl) ?_
  refine g_iload O d_Mo_pass_9 rfl ?_
  refine g_if_eq  O 21 d_Mo_pass_11 (by decide) (fun c11 => ?_) (fun c11 => ?_)
  · first | refine g_aload_n O 0 d_Mo_pass_21 rfl rfl ?_ | refine g_aload_nq O 0 d_Mo_pass_21 rfl rfl ?_
    refine g_iload_n O 3 d_Mo_pass_22 rfl rfl ?_
    refine g_iconst (v := 3) O d_Mo_pass_23 (by decide) ?_
    refine g_callv (N := 0) (mc := 0) (ms := 0) (av := [_, _]) O (Or.inl ⟨_, _, cw_Mo_out⟩) pl_Mo (ci := 6) (q := q_Mo) rfl hM.km ml_Mo_66 im_Mo_out se_Mo_out rfl d_Mo_pass_24 rfl (Nat.le_of_ble_eq_true rfl) (Nat.le_of_ble_eq_true rfl) (Nat.le_of_ble_eq_true rfl) (Nat.le_of_ble_eq_true rfl) ?_
    refine ct_Mo_out ?_
    change cd_Go _ _ _ _ _ _ _ _ _ _
    refine g_if_eq  O 36 d_Mo_pass_27 (by decide) (fun c27 => ?_) (fun c27 => ?_)
    · have hFi : isFi _ = true := (cd_nb _).mp c27
      obtain ⟨q, hq, rfl⟩ := isFi_of hFi
      have hclq : (nI q).toNatClampNeg = q := nI_clamp (by omega)
      first | refine g_aload_n O 0 d_Mo_pass_36 rfl rfl ?_ | refine g_aload_nq O 0 d_Mo_pass_36 rfl rfl ?_
      refine g_iload_n O 1 d_Mo_pass_37 rfl rfl ?_
      refine g_iload O d_Mo_pass_38 rfl ?_
      refine g_callv (N := 1) (mc := 0) (ms := 0) (av := [_, _]) O (Or.inl ⟨_, _, cw_Mo_none⟩) pl_Mo (ci := 6) (q := q_Mo) rfl hM.km ml_Mo_100 im_Mo_none se_Mo_none rfl d_Mo_pass_40 rfl (Nat.le_of_ble_eq_true rfl) (Nat.le_of_ble_eq_true rfl) (Nat.le_of_ble_eq_true rfl) (Nat.le_of_ble_eq_true rfl) ?_
      refine ct_Mo_none hM h6j ?_
      change cd_Go _ _ _ _ _ _ _ _ _ _
      refine g_if_eq  O 52 d_Mo_pass_43 (by decide) (fun c43 => ?_) (fun c43 => ?_)
      · have hO := (cd_nb _).mp c43
        obtain ⟨p, hpp, rfl, htp⟩ := hasO_of hO
        have hclp : (nI p).toNatClampNeg = p := nI_clamp (by omega)
        have hWf : WfA ([] : List Nat) := ⟨List.nodup_nil, fun y hy => by cases hy⟩
        obtain ⟨hWL, -, hTL⟩ := come_ok (σ := σ) (d := j) 12 (nI p) [] hWf
        obtain ⟨hpL, hCL⟩ := come_cl (σ := σ) (d := j) 12 (nI p) [] hWf (by simp)
        have hpL := hpL hO
        rw [hclp] at hpL
        have hTL : ∀ y ∈ (come σ j 12 (nI p) []), sT σ j y = true := fun y hy => (hTL y hy).elim (fun z => by cases z) id
        have hCL : ∀ y ∈ (come σ j 12 (nI p) []), ∀ f t, f < 3 → (sF σ j y f).2.1 = some t → t ∈ (come σ j 12 (nI p) []) := fun y hy f t hf ht => hCL y hy (fun z => by cases z) f hf t ht (hM.wf.2.2.1 j y f t hjj (hWL.2 y hy) hf ht) (hI.2.2.2.1 j y f t hjj (hWL.2 y hy) hf (hTL y hy) ht)
        have hle := cnt_le (sT σ (kH σ c)) 12
        have hL12 := nd_len 12 _ hWL.1 hWL.2
        have hc40 : c < 40 := by omega
        have hM0 := hM
        first | refine g_aload_n O 0 d_Mo_pass_52 rfl rfl ?_ | refine g_aload_nq O 0 d_Mo_pass_52 rfl rfl ?_
        refine g_getS O c_Mo 7 (by decide) rfl hM.km lk_Mo_33 d_Mo_pass_53 (hM.a 7 (by omega) (by omega)).1 ?_
        refine g_iload_n O 1 d_Mo_pass_56 rfl rfl ?_
        refine g_bipush (v := 8) O d_Mo_pass_57 (by decide) ?_
        refine g_imul O d_Mo_pass_59 ?_
        refine g_iload_n O 2 d_Mo_pass_60 rfl rfl ?_
        refine g_iadd O d_Mo_pass_61 ?_
        rw [m8, nI_add]
        refine g_ialdV O 0 rfl rfl (hM.a 7 (by omega) (by omega)).2.1 (by (try simp only [ln_wI]); rw [(hM.a 7 (by omega) (by omega)).2.2]; exact ix_in (n := 48) (show j * 8 + i < 48 from by omega) (by omega)) d_Mo_pass_62 (Eq.trans (congrArg (cd_I _ (1000 + 0) (B 7)) (cl_nI (j := j * 8 + i) (by omega))) (((hM.S h6j hii).trans (congrArg cd_l hs) : _ = nI c))) ?_
        refine g_istore O d_Mo_pass_63 (Nat.le_of_ble_eq_true rfl) ?_
        first | refine g_aload_n O 0 d_Mo_pass_65 rfl rfl ?_ | refine g_aload_nq O 0 d_Mo_pass_65 rfl rfl ?_
        refine g_iload O d_Mo_pass_66 rfl ?_
        refine g_callv (N := 0) (mc := 0) (ms := 0) (av := [_]) O (Or.inl ⟨_, _, cw_Mo_home⟩) pl_Mo (ci := 6) (q := q_Mo) rfl hM.km ml_Mo_70 im_Mo_home se_Mo_home rfl d_Mo_pass_68 rfl (Nat.le_of_ble_eq_true rfl) (Nat.le_of_ble_eq_true rfl) (Nat.le_of_ble_eq_true rfl) (Nat.le_of_ble_eq_true rfl) ?_
        refine ct_Mo_home hM hc ?_
        change cd_Go _ _ _ _ _ _ _ _ _ _
        refine g_istore O d_Mo_pass_71 (Nat.le_of_ble_eq_true rfl) ?_
        first | refine g_aload_n O 0 d_Mo_pass_73 rfl rfl ?_ | refine g_aload_nq O 0 d_Mo_pass_73 rfl rfl ?_
        refine g_iload_n O 1 d_Mo_pass_74 rfl rfl ?_
        refine g_iload O d_Mo_pass_75 rfl ?_
        refine g_callv (N := 0) (mc := 0) (ms := 0) (av := [_, _]) O (Or.inl ⟨_, _, cw_Mo_gather⟩) pl_Mo (ci := 6) (q := q_Mo) rfl hM.km ml_Mo_119 im_Mo_gather se_Mo_gather rfl d_Mo_pass_77 rfl (Nat.le_of_ble_eq_true rfl) (Nat.le_of_ble_eq_true rfl) (Nat.le_of_ble_eq_true rfl) (Nat.le_of_ble_eq_true rfl) ?_
        refine ct_Mo_gather hM hI h6j hjj hpp htp (fun w1 hM1 g1 g2 hF1 => ?_)
        change cd_Go _ _ _ _ _ _ _ _ _ _
        first | refine g_aload_n O 0 d_Mo_pass_80 rfl rfl ?_ | refine g_aload_nq O 0 d_Mo_pass_80 rfl rfl ?_
        refine g_iload O d_Mo_pass_81 rfl ?_
        refine g_callv (N := 0) (mc := 0) (ms := 0) (av := [_]) O (Or.inl ⟨_, _, cw_Mo_objects⟩) pl_Mo (ci := 6) (q := q_Mo) rfl hM1.km ml_Mo_94 im_Mo_objects se_Mo_objects rfl d_Mo_pass_83 rfl (Nat.le_of_ble_eq_true rfl) (Nat.le_of_ble_eq_true rfl) (Nat.le_of_ble_eq_true rfl) (Nat.le_of_ble_eq_true rfl) ?_
        refine ct_Mo_objects hM1 hw.1 ?_
        change cd_Go _ _ _ _ _ _ _ _ _ _
        first | refine g_aload_n O 0 d_Mo_pass_86 rfl rfl ?_ | refine g_aload_nq O 0 d_Mo_pass_86 rfl rfl ?_
        refine g_getV O c_Mo 17 (by decide) rfl hM1.km lk_Mo_63 d_Mo_pass_87 g1 ?_
        refine g_iadd O d_Mo_pass_90 ?_
        rw [nI_add]
        refine g_bipush (v := 12) O d_Mo_pass_91 (by decide) ?_
        refine g_icmp_le  O 103 d_Mo_pass_93 (by decide) (fun c93 => ?_) (fun c93 => ?_)
        · have hg12 : cnt (sT σ (kH σ c)) 12 + (come σ j 12 (nI p) []).length ≤ 12 := (nI_leI (b := 12) (by omega) (by omega)).mp c93
          simp [sp_pass, rD, rF, rS, rU, hDj, hSi, hclj, hcli, hej, hs, hxu, hal, hFi, hclq, hO, hclp, Nat.not_lt.mpr hg12] at hr
          subst hr
          refine g_iconst (v := 0) O d_Mo_pass_103 (by decide) ?_
          refine g_istore O d_Mo_pass_104 (Nat.le_of_ble_eq_true rfl) ?_
          have hgf : gf w1 m B (come σ j 12 (nI p) []) := ⟨g1, g2⟩
          generalize (come σ j 12 (nI p) []) = L at hWL hTL hCL hpL hL12 hg12 hgf h
          have mok := mkA_ok (σ := σ) (h := kH σ c) hWL.1 hg12 L.length (Nat.le_refl _)
          have hcnp : (mkA σ (kH σ c) L L.length).2 p < 12 := by
            obtain ⟨i9, hi9, e9⟩ := gD_of hpL
            have := (mok.2.2.2.2 i9 hi9).1
            rw [e9] at this
            exact this
          have loop2 : ∀ (k : Nat) (v : cd_Wd), k ≤ L.length → (RepM v m B (cpA j (kH σ c) L (mkA σ (kH σ c) L L.length).2 (mkA σ (kH σ c) L L.length).1 k) g ∧ gf v m B L ∧ (∀ y ∈ L, cd_I v 1000 (B 14) y = nI ((mkA σ (kH σ c) L L.length).2 y)) ∧ cd_Fr w v (mow m B)) → cd_Go G l C (cd_MQ G (cx_s C) (cx_b C) 0 0 Q) (0) (0) v 142 [some (.ref m), some (.int (nI j)), some (.int (nI i)), some (.int (nI q)), some (.int (nI p)), some (.int 0), some (.int (nI c)), some (.int (nI (kH σ c))), some (.int (nI k)), none, none, none] [] := by
            refine lp (L.length) (P := fun k v => RepM v m B (cpA j (kH σ c) L (mkA σ (kH σ c) L L.length).2 (mkA σ (kH σ c) L L.length).1 k) g ∧ gf v m B L ∧ (∀ y ∈ L, cd_I v 1000 (B 14) y = nI ((mkA σ (kH σ c) L L.length).2 y)) ∧ cd_Fr w v (mow m B)) (g := fun k v => cd_Go G l C (cd_MQ G (cx_s C) (cx_b C) 0 0 Q) (0) (0) v 142 [some (.ref m), some (.int (nI j)), some (.int (nI i)), some (.int (nI q)), some (.int (nI p)), some (.int 0), some (.int (nI c)), some (.int (nI (kH σ c))), some (.int (nI k)), none, none, none] []) (fun v hP => ?_) (fun k v hk hP ih => ?_)
            · skip
              obtain ⟨hM, hg2, hcp, hF⟩ := hP
              have hP : RepM v m B (cpA j (kH σ c) L (mkA σ (kH σ c) L L.length).2 (mkA σ (kH σ c) L L.length).1 L.length) g ∧ gf v m B L ∧ (∀ y ∈ L, cd_I v 1000 (B 14) y = nI ((mkA σ (kH σ c) L L.length).2 y)) ∧ cd_Fr w v (mow m B) := ⟨hM, hg2, hcp, hF⟩
              have hDCL : sDC σ (cpA j (kH σ c) L (mkA σ (kH σ c) L L.length).2 (mkA σ (kH σ c) L L.length).1 L.length) := mok.1.tr (cpA_DC _ _ _ _ _ _)
              have hkk := (mkA_eqK σ (kH σ c) L L.length).tr (cpA_eqK j (kH σ c) L (mkA σ (kH σ c) L L.length).2 (mkA σ (kH σ c) L L.length).1 L.length)
              have hK8 : cd_I v 1000 (B 8) c = nI (kH σ c * 12 + kT σ c) := by
                rw [(hM.K (show c < sC (cpA j (kH σ c) L (mkA σ (kH σ c) L L.length).2 (mkA σ (kH σ c) L L.length).1 L.length) by rw [hDCL.2]; exact hc)).1, (hkk.k c).1, (hkk.k c).2.1]
              refine g_iload O d_Mo_pass_142 rfl ?_
              first | refine g_aload_n O 0 d_Mo_pass_144 rfl rfl ?_ | refine g_aload_nq O 0 d_Mo_pass_144 rfl rfl ?_
              refine g_getV O c_Mo 17 (by decide) rfl hM.km lk_Mo_63 d_Mo_pass_145 hg2.1 ?_
              refine g_icmp_ge  O 262 d_Mo_pass_148 (by decide) (fun c148 => ?_) (fun c148 => ?_)
              · first | refine g_aload_n O 0 d_Mo_pass_262 rfl rfl ?_ | refine g_aload_nq O 0 d_Mo_pass_262 rfl rfl ?_
                first | refine g_aload_n O 0 d_Mo_pass_263 rfl rfl ?_ | refine g_aload_nq O 0 d_Mo_pass_263 rfl rfl ?_
                refine g_getS O c_Mo 8 (by decide) rfl hM.km lk_Mo_36 d_Mo_pass_264 (hM.a 8 (by omega) (by omega)).1 ?_
                refine g_iload O d_Mo_pass_267 rfl ?_
                refine g_ialdV O 0 rfl rfl (hM.a 8 (by omega) (by omega)).2.1 (vinL (hM.a 8 (by omega) (by omega)).2.2 (ix_in (n := 40) (show c < 40 from hc40) (by omega))) d_Mo_pass_269 (Eq.trans (congrArg (cd_I _ (1000 + 0) (B 8)) (cl_nI (j := c) (by omega))) (hK8)) ?_
                refine g_iconst (v := 3) O d_Mo_pass_270 (by decide) ?_
                refine g_imul O d_Mo_pass_271 ?_
                refine g_iload_n O 3 d_Mo_pass_272 rfl rfl ?_
                refine g_iadd O d_Mo_pass_273 ?_
                rw [m3, nI_add]
                refine g_iconst (v := 1) O d_Mo_pass_274 (by decide) ?_
                first | refine g_aload_n O 0 d_Mo_pass_275 rfl rfl ?_ | refine g_aload_nq O 0 d_Mo_pass_275 rfl rfl ?_
                refine g_getS O c_Mo 14 (by decide) rfl hM.km lk_Mo_54 d_Mo_pass_276 (hM.a 14 (by omega) (by omega)).1 ?_
                refine g_iload O d_Mo_pass_279 rfl ?_
                refine g_ialdV O 0 rfl rfl (hM.a 14 (by omega) (by omega)).2.1 (vinL (hM.a 14 (by omega) (by omega)).2.2 (ix_in (n := 12) (show p < 12 from hpp) (by omega))) d_Mo_pass_281 (Eq.trans (congrArg (cd_I _ (1000 + 0) (B 14)) (cl_nI (j := p) (by omega))) (hcp p hpL)) ?_
                refine g_callv (N := 0) (mc := 0) (ms := 0) (av := [_, _, _]) O (Or.inl ⟨_, _, cw_Mo_put⟩) pl_Mo (ci := 6) (q := q_Mo) rfl hM.km ml_Mo_90 im_Mo_put se_Mo_put rfl d_Mo_pass_282 rfl (Nat.le_of_ble_eq_true rfl) (Nat.le_of_ble_eq_true rfl) (Nat.le_of_ble_eq_true rfl) (Nat.le_of_ble_eq_true rfl) ?_
                refine ct_Mo_put (t := (0, some ((mkA σ (kH σ c) L L.length).2 p), none)) hM hw.1 hw.2.2.1 hq rfl rfl rfl (fun _ z => by cases z; exact hcnp) (fun _ z => by cases z) (fun w2 hM2 hF2 => ?_)
                have hg3 := hg2.fr hM hF2 (by rintro (z | z) <;> exact mB_ne hM (by omega) (by omega) z) (by rintro (z | z) <;> exact nB hM (by omega) (by omega) (by omega) z)
                change cd_Go _ _ _ _ _ _ _ _ _ _
                first | refine g_aload_n O 0 d_Mo_pass_285 rfl rfl ?_ | refine g_aload_nq O 0 d_Mo_pass_285 rfl rfl ?_
                refine g_iload O d_Mo_pass_286 rfl ?_
                refine g_callv (N := 0) (mc := 0) (ms := 0) (av := [_]) O (Or.inl ⟨_, _, cw_Mo_use⟩) pl_Mo (ci := 6) (q := q_Mo) rfl hM2.km ml_Mo_115 im_Mo_use se_Mo_use rfl d_Mo_pass_288 rfl (Nat.le_of_ble_eq_true rfl) (Nat.le_of_ble_eq_true rfl) (Nat.le_of_ble_eq_true rfl) (Nat.le_of_ble_eq_true rfl) ?_
                refine ct_Mo_use (c := c) hM2 (by show c < sC (cpA j (kH σ c) L (mkA σ (kH σ c) L L.length).2 (mkA σ (kH σ c) L L.length).1 L.length); rw [hDCL.2]; exact hc) (fun w3 hM3 hF3 => ?_)
                have hg4 := hg3.fr hM2 hF3 (fun z => mB_ne hM2 (by omega) (by omega) z) (fun z => nB hM2 (by omega) (by omega) (by omega) z)
                change cd_Go _ _ _ _ _ _ _ _ _ _
                first | refine g_aload_n O 0 d_Mo_pass_291 rfl rfl ?_ | refine g_aload_nq O 0 d_Mo_pass_291 rfl rfl ?_
                first | refine g_aload_n O 0 d_Mo_pass_292 rfl rfl ?_ | refine g_aload_nq O 0 d_Mo_pass_292 rfl rfl ?_
                refine g_getV O c_Mo 17 (by decide) rfl hM3.km lk_Mo_63 d_Mo_pass_293 hg4.1 ?_
                refine g_callv (N := 0) (mc := 0) (ms := 0) (av := [_]) O (Or.inl ⟨_, _, cw_Mo_fine⟩) pl_Mo (ci := 6) (q := q_Mo) rfl hM3.km ml_Mo_87 im_Mo_fine se_Mo_fine rfl d_Mo_pass_296 rfl (Nat.le_of_ble_eq_true rfl) (Nat.le_of_ble_eq_true rfl) (Nat.le_of_ble_eq_true rfl) (Nat.le_of_ble_eq_true rfl) ?_
                refine ct_Mo_fine hM3.km ?_
                change cd_Go _ _ _ _ _ _ _ _ _ _
                refine g_iret O d_Mo_pass_299 (Nat.le_of_ble_eq_true rfl) (Nat.le_of_ble_eq_true rfl) ?_
                refine MC.fine hM3 (psS_rel hL j c q p L) (hP.2.2.2.tr ((fr_5 hF2).tr (fr_10 hF3))) ?_
                exact h
              · exact absurd (Int32.le_refl _) c148
            · skip
              obtain ⟨hM, hg2, hcp, hF⟩ := hP
              have hDC2 : sDC σ (cpA j (kH σ c) L (mkA σ (kH σ c) L L.length).2 (mkA σ (kH σ c) L L.length).1 k) := mok.1.tr (cpA_DC _ _ _ _ _ _)
              have hLk : L.getD k 0 < 12 := hWL.2 _ (gD hk)
              have hk12 : k < 12 := by omega
              have hcj := mok.2.2.2.2 k hk
              have hne : ¬ (j = kH σ c ∧ L.getD k 0 = (mkA σ (kH σ c) L L.length).2 (L.getD k 0)) := fun z => by
                have h1 := hTL _ (gD hk)
                rw [z.1, z.2, hcj.2.1] at h1; cases h1
              have eF : ∀ f, sF (cpA j (kH σ c) L (mkA σ (kH σ c) L L.length).2 (mkA σ (kH σ c) L L.length).1 k) j (L.getD k 0) f = sF σ j (L.getD k 0) f := fun f => (cpA_F (fun k hk => (mok.2.2.2.2 k hk).2.1) (by omega) (hTL _ (gD hk))).trans ((mok.2.2.1 j _ (hTL _ (gD hk))).2 f)
              refine g_iload O d_Mo_pass_142 rfl ?_
              first | refine g_aload_n O 0 d_Mo_pass_144 rfl rfl ?_ | refine g_aload_nq O 0 d_Mo_pass_144 rfl rfl ?_
              refine g_getV O c_Mo 17 (by decide) rfl hM.km lk_Mo_63 d_Mo_pass_145 hg2.1 ?_
              refine g_icmp_ge  O 262 d_Mo_pass_148 (by decide) (fun c148 => ?_) (fun c148 => ?_)
              · exact absurd c148 (nI_ge (b := L.length) hk (by omega))
              · refine g_iconst (v := 0) O d_Mo_pass_151 (by decide) ?_
                refine g_istore O d_Mo_pass_152 (Nat.le_of_ble_eq_true rfl) ?_
                have loop3 : ∀ (f : Nat) (v : cd_Wd), f ≤ 3 → (RepM v m B (itr (cp1 j (kH σ c) (mkA σ (kH σ c) L L.length).2 (L.getD k 0) ((mkA σ (kH σ c) L L.length).2 (L.getD k 0))) (cpA j (kH σ c) L (mkA σ (kH σ c) L L.length).2 (mkA σ (kH σ c) L L.length).1 k) f) g ∧ gf v m B L ∧ (∀ y ∈ L, cd_I v 1000 (B 14) y = nI ((mkA σ (kH σ c) L L.length).2 y)) ∧ cd_Fr w v (mow m B)) → cd_Go G l C (cd_MQ G (cx_s C) (cx_b C) 0 0 Q) (0) (0) v 154 [some (.ref m), some (.int (nI j)), some (.int (nI i)), some (.int (nI q)), some (.int (nI p)), some (.int 0), some (.int (nI c)), some (.int (nI (kH σ c))), some (.int (nI k)), some (.int (nI f)), none, none] [] := by
                  refine lp (3) (P := fun f v => RepM v m B (itr (cp1 j (kH σ c) (mkA σ (kH σ c) L L.length).2 (L.getD k 0) ((mkA σ (kH σ c) L L.length).2 (L.getD k 0))) (cpA j (kH σ c) L (mkA σ (kH σ c) L L.length).2 (mkA σ (kH σ c) L L.length).1 k) f) g ∧ gf v m B L ∧ (∀ y ∈ L, cd_I v 1000 (B 14) y = nI ((mkA σ (kH σ c) L L.length).2 y)) ∧ cd_Fr w v (mow m B)) (g := fun f v => cd_Go G l C (cd_MQ G (cx_s C) (cx_b C) 0 0 Q) (0) (0) v 154 [some (.ref m), some (.int (nI j)), some (.int (nI i)), some (.int (nI q)), some (.int (nI p)), some (.int 0), some (.int (nI c)), some (.int (nI (kH σ c))), some (.int (nI k)), some (.int (nI f)), none, none] []) (fun v hP => ?_) (fun f v hf hP ih => ?_)
                  · skip
                    refine g_iload O d_Mo_pass_154 rfl ?_
                    refine g_iconst (v := 3) O d_Mo_pass_156 (by decide) ?_
                    refine g_icmp_ge  O 256 d_Mo_pass_157 (by decide) (fun c157 => ?_) (fun c157 => ?_)
                    · first | refine g_iinc O d_Mo_pass_256 rfl (ic1 _) ?_ | refine g_iinc O d_Mo_pass_256 rfl rfl ?_
                      refine g_goto O 142 d_Mo_pass_259 (by decide) ?_
                      refine g_fg 9 ?_
                      exact ih v ⟨hP.1, hP.2.1, hP.2.2.1, hP.2.2.2⟩
                    · exact absurd (show (3 : Int32) ≤ nI 3 from by decide) c157
                  · skip
                    obtain ⟨hM, hg2, hcp, hF⟩ := hP
                    have hDC3 : sDC σ (itr (cp1 j (kH σ c) (mkA σ (kH σ c) L L.length).2 (L.getD k 0) ((mkA σ (kH σ c) L L.length).2 (L.getD k 0))) (cpA j (kH σ c) L (mkA σ (kH σ c) L L.length).2 (mkA σ (kH σ c) L L.length).1 k) f) := hDC2.tr (cp1_DC _ _ _ _ _ _ _)
                    have hQ := hM.F h6j hLk hf
                    have eF3 : sF (itr (cp1 j (kH σ c) (mkA σ (kH σ c) L L.length).2 (L.getD k 0) ((mkA σ (kH σ c) L L.length).2 (L.getD k 0))) (cpA j (kH σ c) L (mkA σ (kH σ c) L L.length).2 (mkA σ (kH σ c) L L.length).1 k) f) j (L.getD k 0) f = sF σ j (L.getD k 0) f := (cp1_F _ _ _ _ _ _ _ _ _ _ hne).trans (eF f)
                    rw [eF3] at hQ
                    have hfo := hI.2.2.1 j (L.getD k 0) f
                    refine g_iload O d_Mo_pass_154 rfl ?_
                    refine g_iconst (v := 3) O d_Mo_pass_156 (by decide) ?_
                    refine g_icmp_ge  O 256 d_Mo_pass_157 (by decide) (fun c157 => ?_) (fun c157 => ?_)
                    · exact absurd c157 (nI_ge (b := 3) hf (by omega))
                    · refine g_iload_n O 1 d_Mo_pass_160 rfl rfl ?_
                      refine g_bipush (v := 12) O d_Mo_pass_161 (by decide) ?_
                      refine g_imul O d_Mo_pass_163 ?_
                      first | refine g_aload_n O 0 d_Mo_pass_164 rfl rfl ?_ | refine g_aload_nq O 0 d_Mo_pass_164 rfl rfl ?_
                      refine g_getS O c_Mo 13 (by decide) rfl hM.km lk_Mo_51 d_Mo_pass_165 (hM.a 13 (by omega) (by omega)).1 ?_
                      refine g_iload O d_Mo_pass_168 rfl ?_
                      refine g_ialdV O 0 rfl rfl (hM.a 13 (by omega) (by omega)).2.1 (vinL (hM.a 13 (by omega) (by omega)).2.2 (ix_in (n := 12) (show k < 12 from hk12) (by omega))) d_Mo_pass_170 (Eq.trans (congrArg (cd_I _ (1000 + 0) (B 13)) (cl_nI (j := k) (by omega))) (hg2.2 k hk)) ?_
                      refine g_iadd O d_Mo_pass_171 ?_
                      rw [m12, nI_add]
                      refine g_iconst (v := 3) O d_Mo_pass_172 (by decide) ?_
                      refine g_imul O d_Mo_pass_173 ?_
                      refine g_iload O d_Mo_pass_174 rfl ?_
                      refine g_iadd O d_Mo_pass_176 ?_
                      rw [m3, nI_add]
                      refine g_istore O d_Mo_pass_177 (Nat.le_of_ble_eq_true rfl) ?_
                      refine g_iload O d_Mo_pass_179 rfl ?_
                      refine g_bipush (v := 12) O d_Mo_pass_181 (by decide) ?_
                      refine g_imul O d_Mo_pass_183 ?_
                      first | refine g_aload_n O 0 d_Mo_pass_184 rfl rfl ?_ | refine g_aload_nq O 0 d_Mo_pass_184 rfl rfl ?_
                      refine g_getS O c_Mo 14 (by decide) rfl hM.km lk_Mo_54 d_Mo_pass_185 (hM.a 14 (by omega) (by omega)).1 ?_
                      first | refine g_aload_n O 0 d_Mo_pass_188 rfl rfl ?_ | refine g_aload_nq O 0 d_Mo_pass_188 rfl rfl ?_
                      refine g_getS O c_Mo 13 (by decide) rfl hM.km lk_Mo_51 d_Mo_pass_189 (hM.a 13 (by omega) (by omega)).1 ?_
                      refine g_iload O d_Mo_pass_192 rfl ?_
                      refine g_ialdV O 0 rfl rfl (hM.a 13 (by omega) (by omega)).2.1 (vinL (hM.a 13 (by omega) (by omega)).2.2 (ix_in (n := 12) (show k < 12 from hk12) (by omega))) d_Mo_pass_194 (Eq.trans (congrArg (cd_I _ (1000 + 0) (B 13)) (cl_nI (j := k) (by omega))) (hg2.2 k hk)) ?_
                      refine g_ialdV O 0 rfl rfl (hM.a 14 (by omega) (by omega)).2.1 (vinL (hM.a 14 (by omega) (by omega)).2.2 (ix_in (n := 12) (show L.getD k 0 < 12 from hLk) (by omega))) d_Mo_pass_195 (Eq.trans (congrArg (cd_I _ (1000 + 0) (B 14)) (cl_nI (j := L.getD k 0) (by omega))) (hcp _ (gD hk))) ?_
                      refine g_iadd O d_Mo_pass_196 ?_
                      rw [m12, nI_add]
                      refine g_iconst (v := 3) O d_Mo_pass_197 (by decide) ?_
                      refine g_imul O d_Mo_pass_198 ?_
                      refine g_iload O d_Mo_pass_199 rfl ?_
                      refine g_iadd O d_Mo_pass_201 ?_
                      rw [m3, nI_add]
                      refine g_istore O d_Mo_pass_202 (Nat.le_of_ble_eq_true rfl) ?_
                      first | refine g_aload_n O 0 d_Mo_pass_204 rfl rfl ?_ | refine g_aload_nq O 0 d_Mo_pass_204 rfl rfl ?_
                      refine g_iload O d_Mo_pass_205 rfl ?_
                      first | refine g_aload_n O 0 d_Mo_pass_207 rfl rfl ?_ | refine g_aload_nq O 0 d_Mo_pass_207 rfl rfl ?_
                      refine g_getS O c_Mo 5 (by decide) rfl hM.km lk_Mo_26 d_Mo_pass_208 (hM.a 5 (by omega) (by omega)).1 ?_
                      refine g_iload O d_Mo_pass_211 rfl ?_
                      refine g_ialdV O 0 rfl rfl (hM.a 5 (by omega) (by omega)).2.1 (vinL (hM.a 5 (by omega) (by omega)).2.2 (ix_in (n := 216) (show (j * 12 + L.getD k 0) * 3 + f < 216 from by omega) (by omega))) d_Mo_pass_213 (Eq.trans (congrArg (cd_I _ (1000 + 0) (B 5)) (cl_nI (j := (j * 12 + L.getD k 0) * 3 + f) (by omega))) (hQ.1)) ?_
                      first | refine g_aload_n O 0 d_Mo_pass_214 rfl rfl ?_ | refine g_aload_nq O 0 d_Mo_pass_214 rfl rfl ?_
                      refine g_getS O c_Mo 5 (by decide) rfl hM.km lk_Mo_26 d_Mo_pass_215 (hM.a 5 (by omega) (by omega)).1 ?_
                      refine g_iload O d_Mo_pass_218 rfl ?_
                      refine g_ialdV O 0 rfl rfl (hM.a 5 (by omega) (by omega)).2.1 (vinL (hM.a 5 (by omega) (by omega)).2.2 (ix_in (n := 216) (show (j * 12 + L.getD k 0) * 3 + f < 216 from by omega) (by omega))) d_Mo_pass_220 (Eq.trans (congrArg (cd_I _ (1000 + 0) (B 5)) (cl_nI (j := (j * 12 + L.getD k 0) * 3 + f) (by omega))) (hQ.1)) ?_
                      refine g_iconst (v := 1) O d_Mo_pass_221 (by decide) ?_
                      refine g_icmp_ne  O 240 d_Mo_pass_222 (by decide) (fun c222 => ?_) (fun c222 => ?_)
                      · have hl := fS_n1 hfo c222
                        have eV := cpF_Vn (cn := (mkA σ (kH σ c) L L.length).2) hl
                        first | refine g_aload_n O 0 d_Mo_pass_240 rfl rfl ?_ | refine g_aload_nq O 0 d_Mo_pass_240 rfl rfl ?_
                        refine g_getS O c_Mo 6 (by decide) rfl hM.km lk_Mo_30 d_Mo_pass_241 (hM.a 6 (by omega) (by omega)).1 ?_
                        refine g_iload O d_Mo_pass_244 rfl ?_
                        refine g_ialdV O 0 rfl rfl (hM.a 6 (by omega) (by omega)).2.1 (vinL (hM.a 6 (by omega) (by omega)).2.2 (ix_in (n := 216) (show (j * 12 + L.getD k 0) * 3 + f < 216 from by omega) (by omega))) d_Mo_pass_246 (Eq.trans (congrArg (cd_I _ (1000 + 0) (B 6)) (cl_nI (j := (j * 12 + L.getD k 0) * 3 + f) (by omega))) (hQ.2)) ?_
                        refine g_callv (N := 0) (mc := 0) (ms := 0) (av := [_, _, _]) O (Or.inl ⟨_, _, cw_Mo_put⟩) pl_Mo (ci := 6) (q := q_Mo) rfl hM.km ml_Mo_90 im_Mo_put se_Mo_put rfl d_Mo_pass_247 rfl (Nat.le_of_ble_eq_true rfl) (Nat.le_of_ble_eq_true rfl) (Nat.le_of_ble_eq_true rfl) (Nat.le_of_ble_eq_true rfl) ?_
                        refine ct_Mo_put (t := cpF (mkA σ (kH σ c) L L.length).2 (sF σ j (L.getD k 0) f)) hM hw.1 hcj.1 hf rfl (cpF_S hfo).symm eV.symm ?_ ?_ (fun w2 hM2 hF2 => ?_)
                        · intro y hy
                          obtain ⟨z, hz, rfl⟩ := cpF_lk hy
                          have hzL : z ∈ L := hCL _ (gD hk) f z hf hz
                          obtain ⟨i9, hi9, rfl⟩ := gD_of hzL
                          exact (mok.2.2.2.2 i9 hi9).1
                        · intro y hy
                          rw [hDC3.2]
                          exact hM0.wf.2.1 j (L.getD k 0) f y hjj hLk hf (cpF_cp hy)
                        change cd_Go _ _ _ _ _ _ _ _ _ _
                        refine g_fg 10 ?_
                        refine g_fg 11 ?_
                        first | refine g_iinc O d_Mo_pass_250 rfl (ic1 _) ?_ | refine g_iinc O d_Mo_pass_250 rfl rfl ?_
                        refine g_goto O 154 d_Mo_pass_253 (by decide) ?_
                        have hM2 : RepM w2 m B (cp1 j (kH σ c) (mkA σ (kH σ c) L L.length).2 (L.getD k 0) ((mkA σ (kH σ c) L L.length).2 (L.getD k 0)) (itr (cp1 j (kH σ c) (mkA σ (kH σ c) L L.length).2 (L.getD k 0) ((mkA σ (kH σ c) L L.length).2 (L.getD k 0))) (cpA j (kH σ c) L (mkA σ (kH σ c) L L.length).2 (mkA σ (kH σ c) L L.length).1 k) f) f) g := by rw [cp1, eF3]; exact hM2
                        exact ih w2 ⟨hM2, hg2.fr hM hF2 (by rintro (z | z) <;> exact mB_ne hM (by omega) (by omega) z) (by rintro (z | z) <;> exact nB hM (by omega) (by omega) (by omega) z), fun y hy => (hF2.I (by rw [(hM.a 14 (by omega) (by omega)).2.1]; decide) (by rintro (z | z) <;> exact nB hM (by omega) (by omega) (by omega) z) _ _).trans (hcp y hy), hF.tr (fr_5 hF2)⟩
                      · obtain ⟨z, hz⟩ := fS_1 hfo c222
                        have hzL : z ∈ L := hCL _ (gD hk) f z hf (by rw [hz])
                        have hz12 := hWL.2 z hzL
                        have eV : fV (cpF (mkA σ (kH σ c) L L.length).2 (sF σ j (L.getD k 0) f)) = nI ((mkA σ (kH σ c) L L.length).2 z) := by rw [hz]; rfl
                        have hV9 : fV (sF σ j (L.getD k 0) f) = nI z := by rw [hz]; rfl
                        rw [hV9] at hQ
                        first | refine g_aload_n O 0 d_Mo_pass_225 rfl rfl ?_ | refine g_aload_nq O 0 d_Mo_pass_225 rfl rfl ?_
                        refine g_getS O c_Mo 14 (by decide) rfl hM.km lk_Mo_54 d_Mo_pass_226 (hM.a 14 (by omega) (by omega)).1 ?_
                        first | refine g_aload_n O 0 d_Mo_pass_229 rfl rfl ?_ | refine g_aload_nq O 0 d_Mo_pass_229 rfl rfl ?_
                        refine g_getS O c_Mo 6 (by decide) rfl hM.km lk_Mo_30 d_Mo_pass_230 (hM.a 6 (by omega) (by omega)).1 ?_
                        refine g_iload O d_Mo_pass_233 rfl ?_
                        refine g_ialdV O 0 rfl rfl (hM.a 6 (by omega) (by omega)).2.1 (vinL (hM.a 6 (by omega) (by omega)).2.2 (ix_in (n := 216) (show (j * 12 + L.getD k 0) * 3 + f < 216 from by omega) (by omega))) d_Mo_pass_235 (Eq.trans (congrArg (cd_I _ (1000 + 0) (B 6)) (cl_nI (j := (j * 12 + L.getD k 0) * 3 + f) (by omega))) (hQ.2)) ?_
                        refine g_ialdV O 0 rfl rfl (hM.a 14 (by omega) (by omega)).2.1 (vinL (hM.a 14 (by omega) (by omega)).2.2 (ix_in (n := 12) (show z < 12 from hz12) (by omega))) d_Mo_pass_236 (Eq.trans (congrArg (cd_I _ (1000 + 0) (B 14)) (cl_nI (j := z) (by omega))) (hcp z hzL)) ?_
                        refine g_goto O 247 d_Mo_pass_237 (by decide) ?_
                        refine g_callv (N := 0) (mc := 0) (ms := 0) (av := [_, _, _]) O (Or.inl ⟨_, _, cw_Mo_put⟩) pl_Mo (ci := 6) (q := q_Mo) rfl hM.km ml_Mo_90 im_Mo_put se_Mo_put rfl d_Mo_pass_247 rfl (Nat.le_of_ble_eq_true rfl) (Nat.le_of_ble_eq_true rfl) (Nat.le_of_ble_eq_true rfl) (Nat.le_of_ble_eq_true rfl) ?_
                        refine ct_Mo_put (t := cpF (mkA σ (kH σ c) L L.length).2 (sF σ j (L.getD k 0) f)) hM hw.1 hcj.1 hf rfl (cpF_S hfo).symm eV.symm ?_ ?_ (fun w2 hM2 hF2 => ?_)
                        · intro y hy
                          obtain ⟨z, hz, rfl⟩ := cpF_lk hy
                          have hzL : z ∈ L := hCL _ (gD hk) f z hf hz
                          obtain ⟨i9, hi9, rfl⟩ := gD_of hzL
                          exact (mok.2.2.2.2 i9 hi9).1
                        · intro y hy
                          rw [hDC3.2]
                          exact hM0.wf.2.1 j (L.getD k 0) f y hjj hLk hf (cpF_cp hy)
                        change cd_Go _ _ _ _ _ _ _ _ _ _
                        refine g_fg 10 ?_
                        refine g_fg 11 ?_
                        first | refine g_iinc O d_Mo_pass_250 rfl (ic1 _) ?_ | refine g_iinc O d_Mo_pass_250 rfl rfl ?_
                        refine g_goto O 154 d_Mo_pass_253 (by decide) ?_
                        have hM2 : RepM w2 m B (cp1 j (kH σ c) (mkA σ (kH σ c) L L.length).2 (L.getD k 0) ((mkA σ (kH σ c) L L.length).2 (L.getD k 0)) (itr (cp1 j (kH σ c) (mkA σ (kH σ c) L L.length).2 (L.getD k 0) ((mkA σ (kH σ c) L L.length).2 (L.getD k 0))) (cpA j (kH σ c) L (mkA σ (kH σ c) L L.length).2 (mkA σ (kH σ c) L L.length).1 k) f) f) g := by rw [cp1, eF3]; exact hM2
                        exact ih w2 ⟨hM2, hg2.fr hM hF2 (by rintro (z | z) <;> exact mB_ne hM (by omega) (by omega) z) (by rintro (z | z) <;> exact nB hM (by omega) (by omega) (by omega) z), fun y hy => (hF2.I (by rw [(hM.a 14 (by omega) (by omega)).2.1]; decide) (by rintro (z | z) <;> exact nB hM (by omega) (by omega) (by omega) z) _ _).trans (hcp y hy), hF.tr (fr_5 hF2)⟩
                exact loop3 0 v (by omega) ⟨hM, hg2, hcp, hF⟩
          have loop1 : ∀ (k : Nat) (v : cd_Wd), k ≤ L.length → (RepM v m B (mkA σ (kH σ c) L k).1 g ∧ gf v m B L ∧ (∀ y, y < k → cd_I v 1000 (B 14) (L.getD y 0) = nI ((mkA σ (kH σ c) L k).2 (L.getD y 0))) ∧ cd_Fr w v (mow m B)) → cd_Go G l C (cd_MQ G (cx_s C) (cx_b C) 0 0 Q) (0) (0) v 106 [some (.ref m), some (.int (nI j)), some (.int (nI i)), some (.int (nI q)), some (.int (nI p)), some (.int 0), some (.int (nI c)), some (.int (nI (kH σ c))), some (.int (nI k)), none, none, none] [] := by
            refine lp (L.length) (P := fun k v => RepM v m B (mkA σ (kH σ c) L k).1 g ∧ gf v m B L ∧ (∀ y, y < k → cd_I v 1000 (B 14) (L.getD y 0) = nI ((mkA σ (kH σ c) L k).2 (L.getD y 0))) ∧ cd_Fr w v (mow m B)) (g := fun k v => cd_Go G l C (cd_MQ G (cx_s C) (cx_b C) 0 0 Q) (0) (0) v 106 [some (.ref m), some (.int (nI j)), some (.int (nI i)), some (.int (nI q)), some (.int (nI p)), some (.int 0), some (.int (nI c)), some (.int (nI (kH σ c))), some (.int (nI k)), none, none, none] []) (fun v hP => ?_) (fun k v hk hP ih => ?_)
            · skip
              refine g_iload O d_Mo_pass_106 rfl ?_
              first | refine g_aload_n O 0 d_Mo_pass_108 rfl rfl ?_ | refine g_aload_nq O 0 d_Mo_pass_108 rfl rfl ?_
              refine g_getV O c_Mo 17 (by decide) rfl hP.1.km lk_Mo_63 d_Mo_pass_109 hP.2.1.1 ?_
              refine g_icmp_ge  O 139 d_Mo_pass_112 (by decide) (fun c112 => ?_) (fun c112 => ?_)
              · refine g_iconst (v := 0) O d_Mo_pass_139 (by decide) ?_
                refine g_istore O d_Mo_pass_140 (Nat.le_of_ble_eq_true rfl) ?_
                exact loop2 0 v (by omega) ⟨hP.1, hP.2.1, fun y hy => by
                  obtain ⟨i9, hi9, rfl⟩ := gD_of hy
                  exact hP.2.2.1 i9 hi9, hP.2.2.2⟩
              · exact absurd (Int32.le_refl _) c112
            · skip
              obtain ⟨hM, hg2, hcp, hF⟩ := hP
              obtain ⟨m1, m2, m3, m4, m5⟩ := mkA_ok (σ := σ) (h := kH σ c) hWL.1 hg12 k (by omega)
              have hLk : L.getD k 0 < 12 := hWL.2 _ (gD hk)
              have hk12 : k < 12 := by omega
              refine g_iload O d_Mo_pass_106 rfl ?_
              first | refine g_aload_n O 0 d_Mo_pass_108 rfl rfl ?_ | refine g_aload_nq O 0 d_Mo_pass_108 rfl rfl ?_
              refine g_getV O c_Mo 17 (by decide) rfl hM.km lk_Mo_63 d_Mo_pass_109 hg2.1 ?_
              refine g_icmp_ge  O 139 d_Mo_pass_112 (by decide) (fun c112 => ?_) (fun c112 => ?_)
              · exact absurd c112 (nI_ge (b := L.length) hk (by omega))
              · first | refine g_aload_n O 0 d_Mo_pass_115 rfl rfl ?_ | refine g_aload_nq O 0 d_Mo_pass_115 rfl rfl ?_
                refine g_getS O c_Mo 14 (by decide) rfl hM.km lk_Mo_54 d_Mo_pass_116 (hM.a 14 (by omega) (by omega)).1 ?_
                first | refine g_aload_n O 0 d_Mo_pass_119 rfl rfl ?_ | refine g_aload_nq O 0 d_Mo_pass_119 rfl rfl ?_
                refine g_getS O c_Mo 13 (by decide) rfl hM.km lk_Mo_51 d_Mo_pass_120 (hM.a 13 (by omega) (by omega)).1 ?_
                refine g_iload O d_Mo_pass_123 rfl ?_
                refine g_ialdV O 0 rfl rfl (hM.a 13 (by omega) (by omega)).2.1 (vinL (hM.a 13 (by omega) (by omega)).2.2 (ix_in (n := 12) (show k < 12 from hk12) (by omega))) d_Mo_pass_125 (Eq.trans (congrArg (cd_I _ (1000 + 0) (B 13)) (cl_nI (j := k) (by omega))) (hg2.2 k hk)) ?_
                first | refine g_aload_n O 0 d_Mo_pass_126 rfl rfl ?_ | refine g_aload_nq O 0 d_Mo_pass_126 rfl rfl ?_
                refine g_iload O d_Mo_pass_127 rfl ?_
                refine g_callv (N := 1) (mc := 0) (ms := 0) (av := [_]) O (Or.inl ⟨_, _, cw_Mo_newObject⟩) pl_Mo (ci := 6) (q := q_Mo) rfl hM.km ml_Mo_97 im_Mo_newObject se_Mo_newObject rfl d_Mo_pass_129 rfl (Nat.le_of_ble_eq_true rfl) (Nat.le_of_ble_eq_true rfl) (Nat.le_of_ble_eq_true rfl) (Nat.le_of_ble_eq_true rfl) ?_
                refine ct_Mo_newObject hM hw.1 (by omega) (fun w2 hM2 hF2 => ?_)
                change cd_Go _ _ _ _ _ _ _ _ _ _
                refine g_iast O 0 rfl rfl (hM2.a 14 (by omega) (by omega)).2.1 (vinL (hM2.a 14 (by omega) (by omega)).2.2 (ix_in (n := 12) (show L.getD k 0 < 12 from hLk) (by omega))) d_Mo_pass_132 ?_
                first | refine g_iinc O d_Mo_pass_133 rfl (ic1 _) ?_ | refine g_iinc O d_Mo_pass_133 rfl rfl ?_
                refine g_goto O 106 d_Mo_pass_136 (by decide) ?_
                rw [cl_nI (by omega)]
                have n4 : ∀ kk, 13 ≤ kk → kk ≤ 16 → ¬ (B kk = B 4 ∨ B kk = B 5 ∨ B kk = B 6) := by
                  rintro kk a1 a2 (z | z | z) <;> exact nB hM (by omega) (by omega) (by omega) z
                have nm : ¬ (m = B 4 ∨ m = B 5 ∨ m = B 6) := by
                  rintro (z | z | z) <;> exact mB_ne hM (by omega) (by omega) z
                have hg3 := hg2.fr hM hF2 nm (n4 13 (by omega) (by omega))
                refine ih _ ⟨rm_kA hM2 (k := 14) (by omega) (by omega), ⟨?_, fun y hy => ?_⟩, fun y hy => ?_, hF.tr ((fr_4 hF2).tr (cd_Fr.wI (mow_k (k := 14) (by omega) (by omega))))⟩
                · rw [w_nt (by decide)]; exact hg3.1
                · rw [w_ne (nB hM (by omega) (by omega) (by omega))]; exact hg3.2 y hy
                · show _ = nI ((mk1 (kH σ c) L (mkA σ (kH σ c) L k) k).2 (L.getD y 0))
                  simp only [mk1]
                  by_cases e : L.getD y 0 = L.getD k 0
                  · rw [e, w_eq, if_pos rfl]
                  · rw [w_nj e, if_neg e]
                    have hyk : y < k := by
                      rcases Nat.lt_or_ge y k with q9 | q9
                      · exact q9
                      · obtain rfl : y = k := by omega
                        exact absurd rfl e
                    exact (hF2.I (by rw [(hM.a 14 (by omega) (by omega)).2.1]; decide) (n4 14 (by omega) (by omega)) _ _).trans (hcp y hyk)
          exact loop1 0 w1 (by omega) ⟨hM1, hgf, fun y hy => absurd hy (Nat.not_lt_zero y), hF1⟩
        · have hg12 : 12 < cnt (sT σ (kH σ c)) 12 + (come σ j 12 (nI p) []).length := by
            have := (nI_leI (b := 12) (a := cnt (sT σ (kH σ c)) 12 + (come σ j 12 (nI p) []).length) (by omega) (by omega)).mpr
            exact Nat.lt_of_not_le fun z => c93 (this z)
          simp [sp_pass, rD, rF, rS, rU, hDj, hSi, hclj, hcli, hej, hs, hxu, hal, hFi, hclq, hO, hclp, hg12] at hr
          subst hr
          first | refine g_aload_n O 0 d_Mo_pass_96 rfl rfl ?_ | refine g_aload_nq O 0 d_Mo_pass_96 rfl rfl ?_
          refine g_bipush (v := 6) O d_Mo_pass_97 (by decide) ?_
          refine g_callv (N := 0) (mc := 0) (ms := 0) (av := [_]) O (Or.inl ⟨_, _, cw_Mo_fail⟩) pl_Mo (ci := 6) (q := q_Mo) rfl hM1.km ml_Mo_84 im_Mo_fail se_Mo_fail rfl d_Mo_pass_99 rfl (Nat.le_of_ble_eq_true rfl) (Nat.le_of_ble_eq_true rfl) (Nat.le_of_ble_eq_true rfl) (Nat.le_of_ble_eq_true rfl) ?_
          refine ct_Mo_fail hM1.km ?_
          change cd_Go _ _ _ _ _ _ _ _ _ _
          refine g_iret O d_Mo_pass_102 (Nat.le_of_ble_eq_true rfl) (Nat.le_of_ble_eq_true rfl) ?_
          exact MC.fail (c := 6) (by decide) hM1 hL hF1 h
      · have hO := (cd_nbn _).mp c43
        simp [sp_pass, rD, rF, rS, rU, hDj, hSi, hclj, hcli, hej, hs, hxu, hal, hFi, hclq, hO] at hr
        subst hr
        first | refine g_aload_n O 0 d_Mo_pass_46 rfl rfl ?_ | refine g_aload_nq O 0 d_Mo_pass_46 rfl rfl ?_
        refine g_iconst (v := 3) O d_Mo_pass_47 (by decide) ?_
        refine g_callv (N := 0) (mc := 0) (ms := 0) (av := [_]) O (Or.inl ⟨_, _, cw_Mo_fail⟩) pl_Mo (ci := 6) (q := q_Mo) rfl hM.km ml_Mo_84 im_Mo_fail se_Mo_fail rfl d_Mo_pass_48 rfl (Nat.le_of_ble_eq_true rfl) (Nat.le_of_ble_eq_true rfl) (Nat.le_of_ble_eq_true rfl) (Nat.le_of_ble_eq_true rfl) ?_
        refine ct_Mo_fail hM.km ?_
        change cd_Go _ _ _ _ _ _ _ _ _ _
        refine g_iret O d_Mo_pass_51 (Nat.le_of_ble_eq_true rfl) (Nat.le_of_ble_eq_true rfl) ?_
        exact MC.fail (c := 3) (by decide) hM hL cd_Fr.rf h
    · have hFi : isFi _ = false := (cd_nbn _).mp c27
      simp [sp_pass, rD, rF, rS, rU, hDj, hSi, hclj, hcli, hej, hs, hxu, hal, hFi] at hr
      subst hr
      first | refine g_aload_n O 0 d_Mo_pass_30 rfl rfl ?_ | refine g_aload_nq O 0 d_Mo_pass_30 rfl rfl ?_
      refine g_iconst (v := 5) O d_Mo_pass_31 (by decide) ?_
      refine g_callv (N := 0) (mc := 0) (ms := 0) (av := [_]) O (Or.inl ⟨_, _, cw_Mo_fail⟩) pl_Mo (ci := 6) (q := q_Mo) rfl hM.km ml_Mo_84 im_Mo_fail se_Mo_fail rfl d_Mo_pass_32 rfl (Nat.le_of_ble_eq_true rfl) (Nat.le_of_ble_eq_true rfl) (Nat.le_of_ble_eq_true rfl) (Nat.le_of_ble_eq_true rfl) ?_
      refine ct_Mo_fail hM.km ?_
      change cd_Go _ _ _ _ _ _ _ _ _ _
      refine g_iret O d_Mo_pass_35 (Nat.le_of_ble_eq_true rfl) (Nat.le_of_ble_eq_true rfl) ?_
      exact MC.fail (c := 5) (by decide) hM hL cd_Fr.rf h
  · exact absurd rfl c11
