/-- a new capability cell, its numbers as made -/
def nwC (w : cd_Wd) (A : cd_A) (q hm tg : Nat) (pa : Option Nat) (r u : Int32) : cd_Wd := cd_wI (cd_wI (cd_wO (cd_wI (cd_wO (cd_wN w q 10 0) 128 q 0 (some (A 1 hm 0 0))) 129 q 0 (nI tg)) 130 q 0 (pa.map (fun c => A 8 c 0 0))) 131 q 0 r) 132 q 0 u
theorem nwC_fr {w : cd_Wd} {A : cd_A} {q hm tg : Nat} {pa : Option Nat} {r u : Int32} (hq : cd_kd w q = 0) : cd_Fr w (nwC w A q hm tg pa r u) (fun y => cd_kd w y = 0) := by
  unfold nwC
  refine cd_Fr.tr ?_ (cd_Fr.wI hq)
  refine cd_Fr.tr ?_ (cd_Fr.wI hq)
  refine cd_Fr.tr ?_ (cd_Fr.wO hq)
  refine cd_Fr.tr ?_ (cd_Fr.wI hq)
  refine cd_Fr.tr ?_ (cd_Fr.wO hq)
  exact cd_Fr.wN hq
theorem ow_ne0 {w : cd_Wd} {x : Nat} {A : cd_A} {σ : cd_S} (hR : cd_Rep w x A σ) {a : Nat} (ha : cd_ow x A σ a) : cd_kd w a ≠ 0 := by
  rcases ha with rfl | ⟨k, d, o, f, hv, rfl⟩
  · rw [hR.top.1]; decide
  · exact rep_ex hR hv
theorem nwC_rep {w : cd_Wd} {x : Nat} {A : cd_A} {σ : cd_S} {q hm tg : Nat} {pa : Option Nat} {r u : Int32} (hR : cd_Rep w x A σ) (hq : cd_kd w q = 0) : cd_Rep (nwC w A q hm tg pa r u) x A σ := rep_fr hR (nwC_fr hq) fun _ ha => ow_ne0 hR ha
theorem nwC_new {w : cd_Wd} {x : Nat} {A : cd_A} {σ : cd_S} {q hm tg j i : Nat} {pa : Option Nat} {r u : Int32} (hR : cd_Rep w x A σ) (hq : cd_kd w q = 0) (hh : hm < sD σ) (ht : tg < 12) (hp : ∀ p, pa = some p → p < sC σ) (h40 : sC σ < 40) (hj : j < sD σ) (hi : i < 8) :
    CO w x A σ (cd_wO (cd_wI (cd_wO (nwC w A q hm tg pa r u) 1006 (A 7 0 0 0) (sC σ) (some q)) 3 x 0 (nI (sC σ + 1))) 1006 (A 3 j 0 0) i (some q)) (kA A (sC σ) q) (setS (addK σ (hm, tg, pa, r, u, false, false)) j i (some (sC σ))) := by
  have h1 := rep_newC (w := nwC w A q hm tg pa r u) (q := q) (hm := hm) (tg := tg) (pa := pa) (r := r) (u := u) (nwC_rep hR hq) (fun z => ow_ne0 hR z hq)
    (by simp [nwC, kd_wI, kd_wO, kd_wN]) (by simp [nwC, O_wI, O_wO, O_wN]) (by simp [nwC, I_wI, I_wO, I_wN]) (by simp [nwC, O_wI, O_wO, O_wN]) (by simp [nwC, I_wI, I_wO, I_wN]) (by simp [nwC, I_wI, I_wO, I_wN]) (by simp [nwC, I_wI, I_wO, I_wN]) (by simp [nwC, I_wI, I_wO, I_wN]) hh ht hp h40
  have h2 := rep_S h1 (d := j) (i := i) hj hi (r := some (sC σ)) (fun c hc => by cases hc; exact Nat.lt_succ_self _)
  have e1 : kA A (sC σ) q 3 j 0 0 = A 3 j 0 0 := kA_n (by omega)
  have e2 : (some (sC σ)).map (fun c => kA A (sC σ) q 8 c 0 0) = some q := by rw [Option.map_some, kA_8]
  rw [e1, e2] at h2
  have hf1 : cd_Fr w (nwC w A q hm tg pa r u) (cd_ow x A σ) := (nwC_fr hq).drop fun y hy => Or.inr hy
  refine ⟨h2, ?_, ?_⟩
  · refine cd_Fr.tr ?_ (cd_Fr.wO (ow_at (k := 3) ⟨hj, rfl, rfl⟩))
    refine cd_Fr.tr ?_ (cd_Fr.wI (Or.inl rfl))
    exact cd_Fr.tr hf1 (cd_Fr.wO (ow_at (k := 7) ⟨rfl, rfl, rfl⟩))
  rintro a (rfl | ⟨k, d, o, f, hv, rfl⟩)
  · exact Or.inl (Or.inl rfl)
  · by_cases e : k = 8 ∧ d = sC σ
    · obtain ⟨rfl, rfl⟩ := e
      rw [kA_8]
      exact Or.inr hq
    · rw [kA_n e]
      refine Or.inl (ow_at ?_)
      match k, hv with
      | 0, hv => exact hv
      | 1, hv => exact hv
      | 2, hv => exact hv
      | 3, hv => exact hv
      | 4, hv => exact hv
      | 5, hv => exact hv
      | 6, hv => exact hv
      | 7, hv => exact hv
      | 8, hv => exact ⟨by have h1 : d < sC σ + 1 := hv.1; omega, hv.2⟩
      | 9, hv => exact hv
      | 10, hv => exact hv
      | 11, hv => exact hv
      | 12, hv => exact hv
      | k + 13, hv => exact hv.elim
set_option maxHeartbeats 4000000 in
set_option maxRecDepth 100000 in
theorem ct_Cd_putNew {G : cd_Gl} {l : Launch} {w : cd_Wd} {Q : cd_Out → cd_Wd → Prop} {x : Nat} {A : cd_A} {σ : cd_S} (hR : cd_Rep w x A σ) {q j i : Nat} (hq : cd_kd w q = 10) (h40 : sC σ < 40) (hj : j < sD σ) (hi : i < 8) (h : cd_I (cd_wO (cd_wI (cd_wO w 1006 (A 7 0 0 0) (sC σ) (some q)) 3 x 0 (nI (sC σ + 1))) 1006 (A 3 j 0 0) i (some q)) 3 x 0 = nI (sC σ + 1) → Q (.inl (some (.int (nI (sC σ + 1))))) (cd_wO (cd_wI (cd_wO w 1006 (A 7 0 0 0) (sC σ) (some q)) 3 x 0 (nI (sC σ + 1))) 1006 (A 3 j 0 0) i (some q))) : cd_Ct G l y_Cd_putNew 0 0 0 [.ref x, .ref q, .ref (A 1 j 0 0), .int (nI i)] w Q := by
  refine cd_ofW cw_Cd_putNew (by simp [Value.category, cat_rf]) (Nat.le_of_ble_eq_true rfl) fun C O => ?_
  change cd_Go G l C _ 0 0 w 0 [some (.ref x), some (.ref q), some (.ref (A 1 j 0 0)), some (.int (nI i))] []
  first | refine g_aload_n O 0 d_Cd_putNew_0 rfl rfl ?_ | refine g_aload_nq O 0 d_Cd_putNew_0 rfl rfl ?_
  refine g_getS O c_Cd 2 (by decide) rfl hR.top.1 lk_Cd_17 d_Cd_putNew_1 hR.top.2.2.2.2.1 ?_
  first | refine g_aload_n O 0 d_Cd_putNew_4 rfl rfl ?_ | refine g_aload_nq O 0 d_Cd_putNew_4 rfl rfl ?_
  refine g_getV O c_Cd 3 (by decide) rfl hR.top.1 lk_Cd_233 d_Cd_putNew_5 hR.top.2.2.2.2.2.2.2.2.2.2.2.2.2.2.2.2.2.2.2.2.1 ?_
  first | refine g_aload_n O 1 d_Cd_putNew_8 rfl rfl ?_ | refine g_aload_nq O 1 d_Cd_putNew_8 rfl rfl ?_
  first | refine g_aast (q := q_Ca) O 6 4 rfl rfl rfl hR.top.2.2.2.2.2.1 hq (by rw [hR.top.2.2.2.2.2.2.1]; exact ix_in h40 (by omega)) d_Cd_putNew_9 ?_ | refine g_aastN (D := "CapabilityDomains$Capability") O 6 rfl rfl hR.top.2.2.2.2.2.1 (by rw [hR.top.2.2.2.2.2.2.1]; exact ix_in h40 (by omega)) d_Cd_putNew_9 ?_ | refine g_aastq (q := q_Ca) O 6 4 rfl rfl rfl hR.top.2.2.2.2.2.1 hq (by rw [hR.top.2.2.2.2.2.2.1]; exact ix_in h40 (by omega)) d_Cd_putNew_9 ?_
  first | refine g_aload_n O 0 d_Cd_putNew_10 rfl rfl ?_ | refine g_aload_nq O 0 d_Cd_putNew_10 rfl rfl ?_
  refine g_dup O d_Cd_putNew_11 (by first | rfl | exact cat_rf _) ?_
  refine g_getV O c_Cd 3 (by decide) rfl hR.top.1 lk_Cd_233 d_Cd_putNew_12 (show cd_I (cd_wO _ _ _ _ _) 3 x 0 = nI (sC σ) from by rw [I_wO]; exact hR.top.2.2.2.2.2.2.2.2.2.2.2.2.2.2.2.2.2.2.2.2.1) ?_
  refine g_iconst (v := 1) O d_Cd_putNew_15 (by decide) ?_
  refine g_iadd O d_Cd_putNew_16 ?_
  rw [nI_1, nI_clamp (show sC σ < 2 ^ 31 by omega)]
  refine g_putI O c_Cd 3 (by decide) rfl hR.top.1 (Or.inl rfl) (Or.inl rfl) lk_Cd_233 d_Cd_putNew_17 ?_
  first | refine g_aload_n O 2 d_Cd_putNew_20 rfl rfl ?_ | refine g_aload_nq O 2 d_Cd_putNew_20 rfl rfl ?_
  refine g_getS O c_Do 2 (by decide) rfl (hR.d hj).2.1 lk_Cd_227 d_Cd_putNew_21 (show cd_O _ 34 (A 1 j 0 0) 0 = some (A 3 j 0 0) from by rw [O_wI, O_wO, if_neg (by simp)]; exact (hR.d hj).2.2.2.2.2.1) ?_
  refine g_iload_n O 3 d_Cd_putNew_24 rfl rfl ?_
  first | refine g_aload_n O 1 d_Cd_putNew_25 rfl rfl ?_ | refine g_aload_nq O 1 d_Cd_putNew_25 rfl rfl ?_
  first | refine g_aast (q := q_Ca) O 6 4 rfl rfl rfl (hR.d hj).2.2.2.2.2.2.1 hq (by rw [ln_wI, ln_wO, (hR.d hj).2.2.2.2.2.2.2.1]; exact ix_in hi (by omega)) d_Cd_putNew_26 ?_ | refine g_aastN (D := "CapabilityDomains$Capability") O 6 rfl rfl (hR.d hj).2.2.2.2.2.2.1 (by rw [ln_wI, ln_wO, (hR.d hj).2.2.2.2.2.2.2.1]; exact ix_in hi (by omega)) d_Cd_putNew_26 ?_ | refine g_aastq (q := q_Ca) O 6 4 rfl rfl rfl (hR.d hj).2.2.2.2.2.2.1 hq (by rw [ln_wI, ln_wO, (hR.d hj).2.2.2.2.2.2.2.1]; exact ix_in hi (by omega)) d_Cd_putNew_26 ?_
  first | refine g_aload_n O 0 d_Cd_putNew_27 rfl rfl ?_ | refine g_aload_nq O 0 d_Cd_putNew_27 rfl rfl ?_
  rw [nI_clamp (show i < 2 ^ 31 by omega)]
  refine g_getV O c_Cd 3 (by decide) rfl hR.top.1 lk_Cd_233 d_Cd_putNew_28 (show cd_I _ 3 x 0 = nI (sC σ + 1) from by rw [I_wO, I_wI, if_pos ⟨rfl, rfl, rfl⟩]) ?_
  refine g_iret O d_Cd_putNew_31 (Nat.le_of_ble_eq_true rfl) (Nat.le_of_ble_eq_true rfl) ?_
  exact h (by rw [I_wO, I_wI, if_pos ⟨rfl, rfl, rfl⟩])
set_option maxHeartbeats 4000000 in
set_option maxRecDepth 100000 in
theorem op_export {G : cd_Gl} {l : Launch} {w : cd_Wd} {Q : cd_Out → cd_Wd → Prop} (hst : l.stackTraces = false) {x : Nat} {A : cd_A} {σ : cd_S} (hR : cd_Rep w x A σ) {d o s r' u : Int32} {r : cd_R} (hr : sp_export σ d o s r' u = r) (h : ∀ w' A', CO w x A σ w' A' r.2.2 → Q (oc ex_export r) w') : cd_Ct G l y_Cd_export 7 6 37 [.ref x, .int d, .int o, .int s, .int r', .int u] w Q := by
  refine cd_ofW cw_Cd_export (by simp [Value.category, cat_rf]) (Nat.le_of_ble_eq_true rfl) fun C O => ?_
  change cd_Go G l C _ 0 0 w 0 [some (.ref x), some (.int d), some (.int o), some (.int s), some (.int r'), some (.int u), none] []
  have hD6 := hR.top.2.2.2.2.2.2.2.2.2.2.2.2.2.2.2.2.2.2.2.1
  first | refine g_aload_n O 0 d_Cd_export_0 rfl rfl ?_ | refine g_aload_nq O 0 d_Cd_export_0 rfl rfl ?_
  refine g_iload_n O 1 d_Cd_export_1 rfl rfl ?_
  refine g_iload_n O 3 d_Cd_export_2 rfl rfl ?_
  refine g_callv (N := 6) (mc := 1) (ms := 6) (av := [_, _]) O (Or.inl ⟨_, _, cw_Cd_requireSlot⟩) pl_Cd (ci := 0) (q := q_Cd) rfl hR.top.1 ml_Cd_97 im_Cd_requireSlot se_Cd_requireSlot rfl d_Cd_export_3 rfl (Nat.le_of_ble_eq_true rfl) (Nat.le_of_ble_eq_true rfl) (Nat.le_of_ble_eq_true rfl) (Nat.le_of_ble_eq_true rfl) ?_
  refine ct_Cd_requireSlot hst hR (fun e => ?_) (fun hDj hSi => ?_)
  · simp [sp_export, rD, rF, rS, rU, e] at hr
    subst hr
    exact gx_out O (Nat.le_of_ble_eq_true rfl) (Nat.le_of_ble_eq_true rfl) (h w A (CO.rf hR))
  obtain ⟨j, hjj, rfl⟩ := isD_of hD6 hDj
  obtain ⟨i, hii, rfl⟩ := isSl_of hSi
  have hclj : (nI j).toNatClampNeg = j := nI_clamp (by omega)
  have hcli : (nI i).toNatClampNeg = i := nI_clamp (by omega)
  change cd_Go _ _ _ _ _ _ _ _ _ _
  refine g_iload O d_Cd_export_6 rfl ?_
  refine g_iload O d_Cd_export_8 rfl ?_
  refine g_calls (N := 6) (mc := 1) (ms := 6) (av := [_, _]) O (Or.inl ⟨_, _, cw_Cd_requireGrant⟩) pl_Cd ml_Cd_101 st_Cd_requireGrant in_Cd rfl d_Cd_export_10 rfl (Nat.le_of_ble_eq_true rfl) (Nat.le_of_ble_eq_true rfl) (Nat.le_of_ble_eq_true rfl) (Nat.le_of_ble_eq_true rfl) ?_
  refine ct_Cd_requireGrant hst (fun e => ?_) (fun hGr => ?_)
  · simp [sp_export, rD, rF, rS, rU, hDj, hSi, hclj, hcli, e] at hr
    subst hr
    exact gx_out O (Nat.le_of_ble_eq_true rfl) (Nat.le_of_ble_eq_true rfl) (h w A (CO.rf hR))
  change cd_Go _ _ _ _ _ _ _ _ _ _
  first | refine g_aload_n O 0 d_Cd_export_13 rfl rfl ?_ | refine g_aload_nq O 0 d_Cd_export_13 rfl rfl ?_
  refine g_iload_n O 1 d_Cd_export_14 rfl rfl ?_
  refine g_callv (N := 6) (mc := 1) (ms := 6) (av := [_]) O (Or.inl ⟨_, _, cw_Cd_livingDomain⟩) pl_Cd (ci := 0) (q := q_Cd) rfl hR.top.1 ml_Cd_40 im_Cd_livingDomain se_Cd_livingDomain rfl d_Cd_export_15 rfl (Nat.le_of_ble_eq_true rfl) (Nat.le_of_ble_eq_true rfl) (Nat.le_of_ble_eq_true rfl) (Nat.le_of_ble_eq_true rfl) ?_
  refine ct_Cd_livingDomain hst hR (fun e => ?_) (fun j2 hj2 ej hej => ?_) (fun j2 hj2 ej hej => ?_)
  · rw [hDj] at e; cases e
  · obtain rfl : j = j2 := (nI_eq (by omega) (by omega)).mp ej
    simp [sp_export, rD, rF, rS, rU, hclj, hDj, hej, hDj, hSi, hclj, hcli, hGr] at hr
    subst hr
    exact gx_out O (Nat.le_of_ble_eq_true rfl) (Nat.le_of_ble_eq_true rfl) (h w A (CO.rf hR))
  obtain rfl : j = j2 := (nI_eq (by omega) (by omega)).mp ej
  change cd_Go _ _ _ _ _ _ _ _ _ _
  first | refine g_astore O d_Cd_export_18 (Nat.le_of_ble_eq_true rfl) ?_ | refine g_astoreq O d_Cd_export_18 (Nat.le_of_ble_eq_true rfl) ?_
  first | refine g_aload O d_Cd_export_20 rfl ?_ | refine g_aloadq O d_Cd_export_20 rfl ?_
  refine g_iload_n O 2 d_Cd_export_22 rfl rfl ?_
  refine g_callv (N := 0) (mc := 0) (ms := 0) (av := [_]) O (Or.inl ⟨_, _, cw_Do_hasObject⟩) pl_Do (ci := 1) (q := q_Do) rfl (hR.d hjj).2.1 ml_Cd_69 im_Do_hasObject se_Do_hasObject rfl d_Cd_export_23 rfl (Nat.le_of_ble_eq_true rfl) (Nat.le_of_ble_eq_true rfl) (Nat.le_of_ble_eq_true rfl) (Nat.le_of_ble_eq_true rfl) ?_
  refine ct_Do_hasObject hR hjj ?_
  change cd_Go _ _ _ _ _ _ _ _ _ _
  refine g_if_ne  O 39 d_Cd_export_26 (by decide) (fun c26 => ?_) (fun c26 => ?_)
  · have hn := cd_b_ne.mp c26
    obtain ⟨t', ht', rfl, -⟩ := hasO_of hn
    have hclt : (nI t').toNatClampNeg = t' := nI_clamp (by omega)
    first | refine g_aload_n O 0 d_Cd_export_39 rfl rfl ?_ | refine g_aload_nq O 0 d_Cd_export_39 rfl rfl ?_
    refine g_callv (N := 6) (mc := 1) (ms := 6) (av := []) O (Or.inl ⟨_, _, cw_Cd_requireCapabilityLeft⟩) pl_Cd (ci := 0) (q := q_Cd) rfl hR.top.1 ml_Cd_106 im_Cd_requireCapabilityLeft se_Cd_requireCapabilityLeft rfl d_Cd_export_40 rfl (Nat.le_of_ble_eq_true rfl) (Nat.le_of_ble_eq_true rfl) (Nat.le_of_ble_eq_true rfl) (Nat.le_of_ble_eq_true rfl) ?_
    refine ct_Cd_requireCapabilityLeft hst hR (fun e => ?_) (fun hlt => ?_)
    · simp [sp_export, rD, rF, rS, rU, hDj, hSi, hclj, hcli, hGr, hej, hn, Nat.not_lt.mpr e] at hr
      subst hr
      exact gx_out O (Nat.le_of_ble_eq_true rfl) (Nat.le_of_ble_eq_true rfl) (h w A (CO.rf hR))
    change cd_Go _ _ _ _ _ _ _ _ _ _
    first | refine g_aload_n O 0 d_Cd_export_43 rfl rfl ?_ | refine g_aload_nq O 0 d_Cd_export_43 rfl rfl ?_
    refine g_new O c_Ca kl_Cd_15 ia_Ca in_Ca d_Cd_export_44 (Nat.le_of_ble_eq_true rfl) (Nat.le_of_ble_eq_true rfl) (fun b44 z44 => ?_)
    refine g_dup O d_Cd_export_47 (by first | rfl | exact cat_rf _) ?_
    first | refine g_aload O d_Cd_export_48 rfl ?_ | refine g_aloadq O d_Cd_export_48 rfl ?_
    refine g_iload_n O 2 d_Cd_export_50 rfl rfl ?_
    refine g_null O d_Cd_export_51 ?_
    refine g_iload O d_Cd_export_52 rfl ?_
    refine g_iload O d_Cd_export_54 rfl ?_
    refine g_calli (N := 1) (mc := 0) (ms := 0) (av := [_, _, _, _, _]) O cw_Ca_init pl_Ca rfl ml_Cd_109 im_Ca_init rfl d_Cd_export_56 rfl (Nat.le_of_ble_eq_true rfl) (Nat.le_of_ble_eq_true rfl) (Nat.le_of_ble_eq_true rfl) (Nat.le_of_ble_eq_true rfl) ?_
    refine ct_Ca_init (pa := none) (by rw [kd_wN, if_pos rfl]) ?_
    change cd_Go _ _ _ _ _ _ _ _ _ _
    first | refine g_aload O d_Cd_export_59 rfl ?_ | refine g_aloadq O d_Cd_export_59 rfl ?_
    refine g_iload_n O 3 d_Cd_export_61 rfl rfl ?_
    refine g_callv (N := 0) (mc := 0) (ms := 0) (av := [_, _, _]) O (Or.inl ⟨_, _, cw_Cd_putNew⟩) pl_Cd (ci := 0) (q := q_Cd) rfl (show cd_kd (nwC w A b44 j t' none r' u) x = 2 from (nwC_rep hR z44).top.1) ml_Cd_112 im_Cd_putNew se_Cd_putNew rfl d_Cd_export_62 rfl (Nat.le_of_ble_eq_true rfl) (Nat.le_of_ble_eq_true rfl) (Nat.le_of_ble_eq_true rfl) (Nat.le_of_ble_eq_true rfl) ?_
    refine ct_Cd_putNew (w := nwC w A b44 j t' none r' u) (nwC_rep hR z44) (by simp [nwC, kd_wI, kd_wO, kd_wN]) hlt hjj hii (fun _ => ?_)
    change cd_Go _ _ _ _ _ _ _ _ _ _
    refine g_iret O d_Cd_export_65 (Nat.le_of_ble_eq_true rfl) (Nat.le_of_ble_eq_true rfl) ?_
    simp [sp_export, rD, hlt, hn, hclt, hej, hDj, hSi, hclj, hcli, hGr] at hr
    subst hr
    exact h _ _ (nwC_new (pa := none) hR z44 hjj ht' (fun _ z => by cases z) hlt hjj hii)
  · have hn := cd_b_eq.mp c26
    refine g_throw (E := 3) O hst ew_3 (by decide +kernel) kl_Cd_73 ia_NoSuchElementException in_NoSuchElementException ml_Cd_77 ss_Cd_104 d_Cd_export_29 d_Cd_export_32 d_Cd_export_33 d_Cd_export_35 d_Cd_export_38 rfl (Nat.le_of_ble_eq_true rfl) (Nat.le_of_ble_eq_true rfl) (Nat.le_of_ble_eq_true rfl) (Nat.le_of_ble_eq_true rfl) (Nat.le_of_ble_eq_true rfl) (Nat.le_of_ble_eq_true rfl) ?_
    simp [sp_export, rD, rF, rS, rU, hDj, hSi, hclj, hcli, hGr, hej, hn] at hr
    subst hr
    exact h w A (CO.rf hR)
set_option maxHeartbeats 4000000 in
set_option maxRecDepth 100000 in
theorem op_narrow {G : cd_Gl} {l : Launch} {w : cd_Wd} {Q : cd_Out → cd_Wd → Prop} (hst : l.stackTraces = false) {x : Nat} {A : cd_A} {σ : cd_S} (hR : cd_Rep w x A σ) {d s r' u : Int32} {r : cd_R} (hr : sp_narrow σ d s r' u = r) (h : ∀ w' A', CO w x A σ w' A' r.2.2 → Q (oc ex_narrow r) w') : cd_Ct G l y_Cd_narrow 7 6 37 [.ref x, .int d, .int s, .int r', .int u] w Q := by
  refine cd_ofW cw_Cd_narrow (by simp [Value.category, cat_rf]) (Nat.le_of_ble_eq_true rfl) fun C O => ?_
  change cd_Go G l C _ 0 0 w 0 [some (.ref x), some (.int d), some (.int s), some (.int r'), some (.int u), none, none] []
  have hD6 := hR.top.2.2.2.2.2.2.2.2.2.2.2.2.2.2.2.2.2.2.2.1
  first | refine g_aload_n O 0 d_Cd_narrow_0 rfl rfl ?_ | refine g_aload_nq O 0 d_Cd_narrow_0 rfl rfl ?_
  refine g_iload_n O 1 d_Cd_narrow_1 rfl rfl ?_
  refine g_iload_n O 2 d_Cd_narrow_2 rfl rfl ?_
  refine g_callv (N := 6) (mc := 1) (ms := 6) (av := [_, _]) O (Or.inl ⟨_, _, cw_Cd_requireSlot⟩) pl_Cd (ci := 0) (q := q_Cd) rfl hR.top.1 ml_Cd_97 im_Cd_requireSlot se_Cd_requireSlot rfl d_Cd_narrow_3 rfl (Nat.le_of_ble_eq_true rfl) (Nat.le_of_ble_eq_true rfl) (Nat.le_of_ble_eq_true rfl) (Nat.le_of_ble_eq_true rfl) ?_
  refine ct_Cd_requireSlot hst hR (fun e => ?_) (fun hDj hSi => ?_)
  · simp [sp_narrow, rD, rF, rS, rU, e] at hr
    subst hr
    exact gx_out O (Nat.le_of_ble_eq_true rfl) (Nat.le_of_ble_eq_true rfl) (h w A (CO.rf hR))
  obtain ⟨j, hjj, rfl⟩ := isD_of hD6 hDj
  obtain ⟨i, hii, rfl⟩ := isSl_of hSi
  have hclj : (nI j).toNatClampNeg = j := nI_clamp (by omega)
  have hcli : (nI i).toNatClampNeg = i := nI_clamp (by omega)
  change cd_Go _ _ _ _ _ _ _ _ _ _
  refine g_iload_n O 3 d_Cd_narrow_6 rfl rfl ?_
  refine g_iload O d_Cd_narrow_7 rfl ?_
  refine g_calls (N := 6) (mc := 1) (ms := 6) (av := [_, _]) O (Or.inl ⟨_, _, cw_Cd_requireGrant⟩) pl_Cd ml_Cd_101 st_Cd_requireGrant in_Cd rfl d_Cd_narrow_9 rfl (Nat.le_of_ble_eq_true rfl) (Nat.le_of_ble_eq_true rfl) (Nat.le_of_ble_eq_true rfl) (Nat.le_of_ble_eq_true rfl) ?_
  refine ct_Cd_requireGrant hst (fun e => ?_) (fun hGr => ?_)
  · simp [sp_narrow, rD, rF, rS, rU, hDj, hSi, hclj, hcli, e] at hr
    subst hr
    exact gx_out O (Nat.le_of_ble_eq_true rfl) (Nat.le_of_ble_eq_true rfl) (h w A (CO.rf hR))
  change cd_Go _ _ _ _ _ _ _ _ _ _
  first | refine g_aload_n O 0 d_Cd_narrow_12 rfl rfl ?_ | refine g_aload_nq O 0 d_Cd_narrow_12 rfl rfl ?_
  refine g_iload_n O 1 d_Cd_narrow_13 rfl rfl ?_
  refine g_callv (N := 6) (mc := 1) (ms := 6) (av := [_]) O (Or.inl ⟨_, _, cw_Cd_livingDomain⟩) pl_Cd (ci := 0) (q := q_Cd) rfl hR.top.1 ml_Cd_40 im_Cd_livingDomain se_Cd_livingDomain rfl d_Cd_narrow_14 rfl (Nat.le_of_ble_eq_true rfl) (Nat.le_of_ble_eq_true rfl) (Nat.le_of_ble_eq_true rfl) (Nat.le_of_ble_eq_true rfl) ?_
  refine ct_Cd_livingDomain hst hR (fun e => ?_) (fun j2 hj2 ej hej => ?_) (fun j2 hj2 ej hej => ?_)
  · rw [hDj] at e; cases e
  · obtain rfl : j = j2 := (nI_eq (by omega) (by omega)).mp ej
    simp [sp_narrow, rD, rF, rS, rU, hclj, hDj, hej, hDj, hSi, hclj, hcli, hGr] at hr
    subst hr
    exact gx_out O (Nat.le_of_ble_eq_true rfl) (Nat.le_of_ble_eq_true rfl) (h w A (CO.rf hR))
  obtain rfl : j = j2 := (nI_eq (by omega) (by omega)).mp ej
  change cd_Go _ _ _ _ _ _ _ _ _ _
  first | refine g_astore O d_Cd_narrow_17 (Nat.le_of_ble_eq_true rfl) ?_ | refine g_astoreq O d_Cd_narrow_17 (Nat.le_of_ble_eq_true rfl) ?_
  first | refine g_aload O d_Cd_narrow_19 rfl ?_ | refine g_aloadq O d_Cd_narrow_19 rfl ?_
  refine g_iload_n O 2 d_Cd_narrow_21 rfl rfl ?_
  refine g_calls (N := 6) (mc := 1) (ms := 6) (av := [_, _]) O (Or.inl ⟨_, _, cw_Cd_capabilityIn⟩) pl_Cd ml_Cd_89 st_Cd_capabilityIn in_Cd rfl d_Cd_narrow_22 rfl (Nat.le_of_ble_eq_true rfl) (Nat.le_of_ble_eq_true rfl) (Nat.le_of_ble_eq_true rfl) (Nat.le_of_ble_eq_true rfl) ?_
  refine ct_Cd_capabilityIn hst hR hjj hii (fun e => ?_) (fun c hs hc => ?_)
  · simp [sp_narrow, rD, rF, rS, rU, hDj, hSi, hclj, hcli, hGr, hej, e] at hr
    subst hr
    exact gx_out O (Nat.le_of_ble_eq_true rfl) (Nat.le_of_ble_eq_true rfl) (h w A (CO.rf hR))
  change cd_Go _ _ _ _ _ _ _ _ _ _
  first | refine g_astore O d_Cd_narrow_25 (Nat.le_of_ble_eq_true rfl) ?_ | refine g_astoreq O d_Cd_narrow_25 (Nat.le_of_ble_eq_true rfl) ?_
  first | refine g_aload O d_Cd_narrow_27 rfl ?_ | refine g_aloadq O d_Cd_narrow_27 rfl ?_
  refine g_getV O c_Ca 6 (by decide) rfl (hR.c hc).2.1 lk_Cd_116 d_Cd_narrow_29 (hR.c hc).2.2.2.2.2.2.2.2 ?_
  refine g_if_eq  O 45 d_Cd_narrow_32 (by decide) (fun c32 => ?_) (fun c32 => ?_)
  · have hn := cd_b_eq.mp c32
    first | refine g_aload O d_Cd_narrow_45 rfl ?_ | refine g_aloadq O d_Cd_narrow_45 rfl ?_
    refine g_iload_n O 3 d_Cd_narrow_47 rfl rfl ?_
    refine g_callv (N := 0) (mc := 0) (ms := 0) (av := [_]) O (Or.inl ⟨_, _, cw_Ca_allows⟩) pl_Ca (ci := 4) (q := q_Ca) rfl (hR.c hc).2.1 ml_Cd_122 im_Ca_allows se_Ca_allows rfl d_Cd_narrow_48 rfl (Nat.le_of_ble_eq_true rfl) (Nat.le_of_ble_eq_true rfl) (Nat.le_of_ble_eq_true rfl) (Nat.le_of_ble_eq_true rfl) ?_
    refine ct_Ca_allows hR hc ?_
    change cd_Go _ _ _ _ _ _ _ _ _ _
    refine g_if_ne  O 64 d_Cd_narrow_51 (by decide) (fun c51 => ?_) (fun c51 => ?_)
    · have hn2 := cd_b_ne.mp c51
      have hw := hR.wf.2.2.2 c hc
      first | refine g_aload_n O 0 d_Cd_narrow_64 rfl rfl ?_ | refine g_aload_nq O 0 d_Cd_narrow_64 rfl rfl ?_
      refine g_callv (N := 6) (mc := 1) (ms := 6) (av := []) O (Or.inl ⟨_, _, cw_Cd_requireCapabilityLeft⟩) pl_Cd (ci := 0) (q := q_Cd) rfl hR.top.1 ml_Cd_106 im_Cd_requireCapabilityLeft se_Cd_requireCapabilityLeft rfl d_Cd_narrow_65 rfl (Nat.le_of_ble_eq_true rfl) (Nat.le_of_ble_eq_true rfl) (Nat.le_of_ble_eq_true rfl) (Nat.le_of_ble_eq_true rfl) ?_
      refine ct_Cd_requireCapabilityLeft hst hR (fun e => ?_) (fun hlt => ?_)
      · simp [sp_narrow, rD, rF, rS, rU, hDj, hSi, hclj, hcli, hGr, hej, hs, hn, hn2, Nat.not_lt.mpr e] at hr
        subst hr
        exact gx_out O (Nat.le_of_ble_eq_true rfl) (Nat.le_of_ble_eq_true rfl) (h w A (CO.rf hR))
      change cd_Go _ _ _ _ _ _ _ _ _ _
      first | refine g_aload_n O 0 d_Cd_narrow_68 rfl rfl ?_ | refine g_aload_nq O 0 d_Cd_narrow_68 rfl rfl ?_
      refine g_new O c_Ca kl_Cd_15 ia_Ca in_Ca d_Cd_narrow_69 (Nat.le_of_ble_eq_true rfl) (Nat.le_of_ble_eq_true rfl) (fun b69 z69 => ?_)
      have hcq : ¬ A 8 c 0 0 = b69 := fun e => ow_ne0 hR (ow_at (k := 8) ⟨hc, rfl, rfl⟩) (e ▸ z69)
      refine g_dup O d_Cd_narrow_72 (by first | rfl | exact cat_rf _) ?_
      first | refine g_aload O d_Cd_narrow_73 rfl ?_ | refine g_aloadq O d_Cd_narrow_73 rfl ?_
      refine g_getS O c_Ca 0 (by decide) rfl (by rw [kd_wN, if_neg hcq]; exact (hR.c hc).2.1) lk_Cd_130 d_Cd_narrow_75 (show cd_O _ 128 (A 8 c 0 0) 0 = some (A 1 (kH σ c) 0 0) from by rw [O_wN, if_neg hcq]; exact (hR.c hc).2.2.1) ?_
      first | refine g_aload O d_Cd_narrow_78 rfl ?_ | refine g_aloadq O d_Cd_narrow_78 rfl ?_
      refine g_getV O c_Ca 1 (by decide) rfl (by rw [kd_wN, if_neg hcq]; exact (hR.c hc).2.1) lk_Cd_134 d_Cd_narrow_80 (show cd_I _ 129 (A 8 c 0 0) 0 = nI (kT σ c) from by rw [I_wN, if_neg hcq]; exact (hR.c hc).2.2.2.1) ?_
      first | refine g_aload O d_Cd_narrow_83 rfl ?_ | refine g_aloadq O d_Cd_narrow_83 rfl ?_
      refine g_iload_n O 3 d_Cd_narrow_85 rfl rfl ?_
      refine g_iload O d_Cd_narrow_86 rfl ?_
      refine g_calli (N := 1) (mc := 0) (ms := 0) (av := [_, _, _, _, _]) O cw_Ca_init pl_Ca rfl ml_Cd_109 im_Ca_init rfl d_Cd_narrow_88 rfl (Nat.le_of_ble_eq_true rfl) (Nat.le_of_ble_eq_true rfl) (Nat.le_of_ble_eq_true rfl) (Nat.le_of_ble_eq_true rfl) ?_
      refine ct_Ca_init (pa := some (A 8 c 0 0)) (by rw [kd_wN, if_pos rfl]) ?_
      change cd_Go _ _ _ _ _ _ _ _ _ _
      first | refine g_aload O d_Cd_narrow_91 rfl ?_ | refine g_aloadq O d_Cd_narrow_91 rfl ?_
      refine g_iload_n O 2 d_Cd_narrow_93 rfl rfl ?_
      refine g_callv (N := 0) (mc := 0) (ms := 0) (av := [_, _, _]) O (Or.inl ⟨_, _, cw_Cd_putNew⟩) pl_Cd (ci := 0) (q := q_Cd) rfl (show cd_kd (nwC w A b69 (kH σ c) (kT σ c) (some c) r' u) x = 2 from (nwC_rep hR z69).top.1) ml_Cd_112 im_Cd_putNew se_Cd_putNew rfl d_Cd_narrow_94 rfl (Nat.le_of_ble_eq_true rfl) (Nat.le_of_ble_eq_true rfl) (Nat.le_of_ble_eq_true rfl) (Nat.le_of_ble_eq_true rfl) ?_
      refine ct_Cd_putNew (w := nwC w A b69 (kH σ c) (kT σ c) (some c) r' u) (nwC_rep hR z69) (by simp [nwC, kd_wI, kd_wO, kd_wN]) hlt hjj hii (fun _ => ?_)
      change cd_Go _ _ _ _ _ _ _ _ _ _
      refine g_iret O d_Cd_narrow_97 (Nat.le_of_ble_eq_true rfl) (Nat.le_of_ble_eq_true rfl) ?_
      simp [sp_narrow, rD, rS, hlt, hn, hn2, hs, hej, hDj, hSi, hclj, hcli, hGr] at hr
      subst hr
      exact h _ _ (nwC_new (pa := some c) hR z69 hw.1 hw.2.1 (fun _ z => by cases z; exact hc) hlt hjj hii)
    · have hn2 := cd_b_eq.mp c51
      refine g_throw (E := 4) O hst ew_4 (by decide +kernel) kl_Cd_125 ia_UnsupportedOperationException in_UnsupportedOperationException ml_Cd_129 ss_Cd_127 d_Cd_narrow_54 d_Cd_narrow_57 d_Cd_narrow_58 d_Cd_narrow_60 d_Cd_narrow_63 rfl (Nat.le_of_ble_eq_true rfl) (Nat.le_of_ble_eq_true rfl) (Nat.le_of_ble_eq_true rfl) (Nat.le_of_ble_eq_true rfl) (Nat.le_of_ble_eq_true rfl) (Nat.le_of_ble_eq_true rfl) ?_
      simp [sp_narrow, rD, rF, rS, rU, hDj, hSi, hclj, hcli, hGr, hej, hs, hn, hn2] at hr
      subst hr
      exact h w A (CO.rf hR)
  · have hn := cd_b_ne.mp c32
    refine g_throw (E := 2) O hst ew_2 (by decide +kernel) kl_Cd_32 ia_IllegalStateException in_IllegalStateException ml_Cd_36 ss_Cd_120 d_Cd_narrow_35 d_Cd_narrow_38 d_Cd_narrow_39 d_Cd_narrow_41 d_Cd_narrow_44 rfl (Nat.le_of_ble_eq_true rfl) (Nat.le_of_ble_eq_true rfl) (Nat.le_of_ble_eq_true rfl) (Nat.le_of_ble_eq_true rfl) (Nat.le_of_ble_eq_true rfl) (Nat.le_of_ble_eq_true rfl) ?_
    simp [sp_narrow, rD, rF, rS, rU, hDj, hSi, hclj, hcli, hGr, hej, hs, hn] at hr
    subst hr
    exact h w A (CO.rf hR)
set_option maxHeartbeats 4000000 in
set_option maxRecDepth 100000 in
theorem op_give {G : cd_Gl} {l : Launch} {w : cd_Wd} {Q : cd_Out → cd_Wd → Prop} (hst : l.stackTraces = false) {x : Nat} {A : cd_A} {σ : cd_S} (hR : cd_Rep w x A σ) {d s e' t' : Int32} {r : cd_R} (hr : sp_give σ d s e' t' = r) (h : ∀ w' A', CO w x A σ w' A' r.2.2 → Q (oc (fun k => k) r) w') : cd_Ct G l y_Cd_give 7 5 30 [.ref x, .int d, .int s, .int e', .int t'] w Q := by
  refine cd_ofW cw_Cd_give (by simp [Value.category, cat_rf]) (Nat.le_of_ble_eq_true rfl) fun C O => ?_
  change cd_Go G l C _ 0 0 w 0 [some (.ref x), some (.int d), some (.int s), some (.int e'), some (.int t'), none, none] []
  have hD6 := hR.top.2.2.2.2.2.2.2.2.2.2.2.2.2.2.2.2.2.2.2.1
  first | refine g_aload_n O 0 d_Cd_give_0 rfl rfl ?_ | refine g_aload_nq O 0 d_Cd_give_0 rfl rfl ?_
  refine g_iload_n O 1 d_Cd_give_1 rfl rfl ?_
  refine g_iload_n O 2 d_Cd_give_2 rfl rfl ?_
  refine g_callv (N := 6) (mc := 1) (ms := 6) (av := [_, _]) O (Or.inl ⟨_, _, cw_Cd_requireSlot⟩) pl_Cd (ci := 0) (q := q_Cd) rfl hR.top.1 ml_Cd_97 im_Cd_requireSlot se_Cd_requireSlot rfl d_Cd_give_3 rfl (Nat.le_of_ble_eq_true rfl) (Nat.le_of_ble_eq_true rfl) (Nat.le_of_ble_eq_true rfl) (Nat.le_of_ble_eq_true rfl) ?_
  refine ct_Cd_requireSlot hst hR (fun e => ?_) (fun hDj hSi => ?_)
  · simp [sp_give, rD, rF, rS, rU, e] at hr
    subst hr
    exact gx_out O (Nat.le_of_ble_eq_true rfl) (Nat.le_of_ble_eq_true rfl) (h w A (CO.rf hR))
  obtain ⟨j, hjj, rfl⟩ := isD_of hD6 hDj
  obtain ⟨i, hii, rfl⟩ := isSl_of hSi
  have hclj : (nI j).toNatClampNeg = j := nI_clamp (by omega)
  have hcli : (nI i).toNatClampNeg = i := nI_clamp (by omega)
  change cd_Go _ _ _ _ _ _ _ _ _ _
  first | refine g_aload_n O 0 d_Cd_give_6 rfl rfl ?_ | refine g_aload_nq O 0 d_Cd_give_6 rfl rfl ?_
  refine g_iload_n O 3 d_Cd_give_7 rfl rfl ?_
  refine g_iload O d_Cd_give_8 rfl ?_
  refine g_callv (N := 6) (mc := 1) (ms := 6) (av := [_, _]) O (Or.inl ⟨_, _, cw_Cd_requireSlot⟩) pl_Cd (ci := 0) (q := q_Cd) rfl hR.top.1 ml_Cd_97 im_Cd_requireSlot se_Cd_requireSlot rfl d_Cd_give_10 rfl (Nat.le_of_ble_eq_true rfl) (Nat.le_of_ble_eq_true rfl) (Nat.le_of_ble_eq_true rfl) (Nat.le_of_ble_eq_true rfl) ?_
  refine ct_Cd_requireSlot hst hR (fun ee => ?_) (fun hDe hSt => ?_)
  · simp [sp_give, rD, rF, rS, rU, hDj, hSi, hclj, hcli, ee] at hr
    subst hr
    exact gx_out O (Nat.le_of_ble_eq_true rfl) (Nat.le_of_ble_eq_true rfl) (h w A (CO.rf hR))
  obtain ⟨e, hje, rfl⟩ := isD_of hD6 hDe
  obtain ⟨t, hit, rfl⟩ := isSl_of hSt
  have hcle : (nI e).toNatClampNeg = e := nI_clamp (by omega)
  have hclt : (nI t).toNatClampNeg = t := nI_clamp (by omega)
  change cd_Go _ _ _ _ _ _ _ _ _ _
  first | refine g_aload_n O 0 d_Cd_give_13 rfl rfl ?_ | refine g_aload_nq O 0 d_Cd_give_13 rfl rfl ?_
  refine g_iload_n O 1 d_Cd_give_14 rfl rfl ?_
  refine g_callv (N := 6) (mc := 1) (ms := 6) (av := [_]) O (Or.inl ⟨_, _, cw_Cd_livingDomain⟩) pl_Cd (ci := 0) (q := q_Cd) rfl hR.top.1 ml_Cd_40 im_Cd_livingDomain se_Cd_livingDomain rfl d_Cd_give_15 rfl (Nat.le_of_ble_eq_true rfl) (Nat.le_of_ble_eq_true rfl) (Nat.le_of_ble_eq_true rfl) (Nat.le_of_ble_eq_true rfl) ?_
  refine ct_Cd_livingDomain hst hR (fun e => ?_) (fun j2 hj2 ej hej => ?_) (fun j2 hj2 ej hej => ?_)
  · rw [hDj] at e; cases e
  · obtain rfl : j = j2 := (nI_eq (by omega) (by omega)).mp ej
    simp [sp_give, rD, rF, rS, rU, hclj, hDj, hej, hDj, hSi, hclj, hcli, hDe, hSt, hcle, hclt] at hr
    subst hr
    exact gx_out O (Nat.le_of_ble_eq_true rfl) (Nat.le_of_ble_eq_true rfl) (h w A (CO.rf hR))
  obtain rfl : j = j2 := (nI_eq (by omega) (by omega)).mp ej
  change cd_Go _ _ _ _ _ _ _ _ _ _
  first | refine g_astore O d_Cd_give_18 (Nat.le_of_ble_eq_true rfl) ?_ | refine g_astoreq O d_Cd_give_18 (Nat.le_of_ble_eq_true rfl) ?_
  first | refine g_aload_n O 0 d_Cd_give_20 rfl rfl ?_ | refine g_aload_nq O 0 d_Cd_give_20 rfl rfl ?_
  refine g_iload_n O 3 d_Cd_give_21 rfl rfl ?_
  refine g_callv (N := 6) (mc := 1) (ms := 6) (av := [_]) O (Or.inl ⟨_, _, cw_Cd_livingDomain⟩) pl_Cd (ci := 0) (q := q_Cd) rfl hR.top.1 ml_Cd_40 im_Cd_livingDomain se_Cd_livingDomain rfl d_Cd_give_22 rfl (Nat.le_of_ble_eq_true rfl) (Nat.le_of_ble_eq_true rfl) (Nat.le_of_ble_eq_true rfl) (Nat.le_of_ble_eq_true rfl) ?_
  refine ct_Cd_livingDomain hst hR (fun ez => ?_) (fun j2 hj2 ej hee => ?_) (fun j2 hj2 ej hee => ?_)
  · rw [hDe] at ez; cases ez
  · obtain rfl : e = j2 := (nI_eq (by omega) (by omega)).mp ej
    simp [sp_give, rD, rF, rS, rU, hcle, hDe, hee, hDj, hSi, hclj, hcli, hDe, hSt, hcle, hclt, hej] at hr
    subst hr
    exact gx_out O (Nat.le_of_ble_eq_true rfl) (Nat.le_of_ble_eq_true rfl) (h w A (CO.rf hR))
  obtain rfl : e = j2 := (nI_eq (by omega) (by omega)).mp ej
  change cd_Go _ _ _ _ _ _ _ _ _ _
  first | refine g_astore O d_Cd_give_25 (Nat.le_of_ble_eq_true rfl) ?_ | refine g_astoreq O d_Cd_give_25 (Nat.le_of_ble_eq_true rfl) ?_
  first | refine g_aload O d_Cd_give_27 rfl ?_ | refine g_aloadq O d_Cd_give_27 rfl ?_
  refine g_iload O d_Cd_give_29 rfl ?_
  first | refine g_aload O d_Cd_give_31 rfl ?_ | refine g_aloadq O d_Cd_give_31 rfl ?_
  refine g_iload_n O 2 d_Cd_give_33 rfl rfl ?_
  refine g_calls (N := 6) (mc := 1) (ms := 6) (av := [_, _]) O (Or.inl ⟨_, _, cw_Cd_capabilityIn⟩) pl_Cd ml_Cd_89 st_Cd_capabilityIn in_Cd rfl d_Cd_give_34 rfl (Nat.le_of_ble_eq_true rfl) (Nat.le_of_ble_eq_true rfl) (Nat.le_of_ble_eq_true rfl) (Nat.le_of_ble_eq_true rfl) ?_
  refine ct_Cd_capabilityIn hst hR hjj hii (fun ez => ?_) (fun c hs hc => ?_)
  · simp [sp_give, rD, rF, rS, rU, hDj, hSi, hclj, hcli, hDe, hSt, hcle, hclt, hej, hee, ez] at hr
    subst hr
    exact gx_out O (Nat.le_of_ble_eq_true rfl) (Nat.le_of_ble_eq_true rfl) (h w A (CO.rf hR))
  change cd_Go _ _ _ _ _ _ _ _ _ _
  refine g_callv (N := 0) (mc := 0) (ms := 0) (av := [_, _]) O (Or.inl ⟨_, _, cw_Do_replaceSlot⟩) pl_Do (ci := 1) (q := q_Do) rfl (hR.d hje).2.1 ml_Cd_137 im_Do_replaceSlot se_Do_replaceSlot rfl d_Cd_give_37 rfl (Nat.le_of_ble_eq_true rfl) (Nat.le_of_ble_eq_true rfl) (Nat.le_of_ble_eq_true rfl) (Nat.le_of_ble_eq_true rfl) ?_
  refine ct_Do_replaceSlot hR hje hit hc (fun w' hR' hF' => ?_)
  change cd_Go _ _ _ _ _ _ _ _ _ _
  refine g_iret O d_Cd_give_40 (Nat.le_of_ble_eq_true rfl) (Nat.le_of_ble_eq_true rfl) ?_
  simp [sp_give, rD, rS, hs, hej, hee, hDj, hSi, hclj, hcli, hDe, hSt, hcle, hclt] at hr
  subst hr
  exact h w' A (CO.sm hR' hF' ⟨rfl, rfl⟩)
set_option maxHeartbeats 4000000 in
set_option maxRecDepth 100000 in
theorem op_revoke {G : cd_Gl} {l : Launch} {w : cd_Wd} {Q : cd_Out → cd_Wd → Prop} (hst : l.stackTraces = false) {x : Nat} {A : cd_A} {σ : cd_S} (hR : cd_Rep w x A σ) {d s : Int32} {r : cd_R} (hr : sp_revoke σ d s = r) (h : ∀ w' A', CO w x A σ w' A' r.2.2 → Q (oc (fun k => k) r) w') : cd_Ct G l y_Cd_revoke 7 4 24 [.ref x, .int d, .int s] w Q := by
  refine cd_ofW cw_Cd_revoke (by simp [Value.category, cat_rf]) (Nat.le_of_ble_eq_true rfl) fun C O => ?_
  change cd_Go G l C _ 0 0 w 0 [some (.ref x), some (.int d), some (.int s), none, none] []
  have hD6 := hR.top.2.2.2.2.2.2.2.2.2.2.2.2.2.2.2.2.2.2.2.1
  first | refine g_aload_n O 0 d_Cd_revoke_0 rfl rfl ?_ | refine g_aload_nq O 0 d_Cd_revoke_0 rfl rfl ?_
  refine g_iload_n O 1 d_Cd_revoke_1 rfl rfl ?_
  refine g_iload_n O 2 d_Cd_revoke_2 rfl rfl ?_
  refine g_callv (N := 6) (mc := 1) (ms := 6) (av := [_, _]) O (Or.inl ⟨_, _, cw_Cd_requireSlot⟩) pl_Cd (ci := 0) (q := q_Cd) rfl hR.top.1 ml_Cd_97 im_Cd_requireSlot se_Cd_requireSlot rfl d_Cd_revoke_3 rfl (Nat.le_of_ble_eq_true rfl) (Nat.le_of_ble_eq_true rfl) (Nat.le_of_ble_eq_true rfl) (Nat.le_of_ble_eq_true rfl) ?_
  refine ct_Cd_requireSlot hst hR (fun e => ?_) (fun hDj hSi => ?_)
  · simp [sp_revoke, rD, rF, rS, rU, e] at hr
    subst hr
    exact gx_out O (Nat.le_of_ble_eq_true rfl) (Nat.le_of_ble_eq_true rfl) (h w A (CO.rf hR))
  obtain ⟨j, hjj, rfl⟩ := isD_of hD6 hDj
  obtain ⟨i, hii, rfl⟩ := isSl_of hSi
  have hclj : (nI j).toNatClampNeg = j := nI_clamp (by omega)
  have hcli : (nI i).toNatClampNeg = i := nI_clamp (by omega)
  change cd_Go _ _ _ _ _ _ _ _ _ _
  first | refine g_aload_n O 0 d_Cd_revoke_6 rfl rfl ?_ | refine g_aload_nq O 0 d_Cd_revoke_6 rfl rfl ?_
  refine g_iload_n O 1 d_Cd_revoke_7 rfl rfl ?_
  refine g_callv (N := 6) (mc := 1) (ms := 6) (av := [_]) O (Or.inl ⟨_, _, cw_Cd_livingDomain⟩) pl_Cd (ci := 0) (q := q_Cd) rfl hR.top.1 ml_Cd_40 im_Cd_livingDomain se_Cd_livingDomain rfl d_Cd_revoke_8 rfl (Nat.le_of_ble_eq_true rfl) (Nat.le_of_ble_eq_true rfl) (Nat.le_of_ble_eq_true rfl) (Nat.le_of_ble_eq_true rfl) ?_
  refine ct_Cd_livingDomain hst hR (fun e => ?_) (fun j2 hj2 ej hej => ?_) (fun j2 hj2 ej hej => ?_)
  · rw [hDj] at e; cases e
  · obtain rfl : j = j2 := (nI_eq (by omega) (by omega)).mp ej
    simp [sp_revoke, rD, rF, rS, rU, hclj, hDj, hej, hDj, hSi, hclj, hcli] at hr
    subst hr
    exact gx_out O (Nat.le_of_ble_eq_true rfl) (Nat.le_of_ble_eq_true rfl) (h w A (CO.rf hR))
  obtain rfl : j = j2 := (nI_eq (by omega) (by omega)).mp ej
  change cd_Go _ _ _ _ _ _ _ _ _ _
  first | refine g_astore_n O 3 d_Cd_revoke_11 rfl (Nat.le_of_ble_eq_true rfl) ?_ | refine g_astore_nq O 3 d_Cd_revoke_11 rfl (Nat.le_of_ble_eq_true rfl) ?_
  first | refine g_aload_n O 3 d_Cd_revoke_12 rfl rfl ?_ | refine g_aload_nq O 3 d_Cd_revoke_12 rfl rfl ?_
  refine g_iload_n O 2 d_Cd_revoke_13 rfl rfl ?_
  refine g_calls (N := 6) (mc := 1) (ms := 6) (av := [_, _]) O (Or.inl ⟨_, _, cw_Cd_capabilityIn⟩) pl_Cd ml_Cd_89 st_Cd_capabilityIn in_Cd rfl d_Cd_revoke_14 rfl (Nat.le_of_ble_eq_true rfl) (Nat.le_of_ble_eq_true rfl) (Nat.le_of_ble_eq_true rfl) (Nat.le_of_ble_eq_true rfl) ?_
  refine ct_Cd_capabilityIn hst hR hjj hii (fun e => ?_) (fun c hs hc => ?_)
  · simp [sp_revoke, rD, rF, rS, rU, hDj, hSi, hclj, hcli, hej, e] at hr
    subst hr
    exact gx_out O (Nat.le_of_ble_eq_true rfl) (Nat.le_of_ble_eq_true rfl) (h w A (CO.rf hR))
  change cd_Go _ _ _ _ _ _ _ _ _ _
  first | refine g_astore O d_Cd_revoke_17 (Nat.le_of_ble_eq_true rfl) ?_ | refine g_astoreq O d_Cd_revoke_17 (Nat.le_of_ble_eq_true rfl) ?_
  first | refine g_aload O d_Cd_revoke_19 rfl ?_ | refine g_aloadq O d_Cd_revoke_19 rfl ?_
  refine g_getS O c_Ca 0 (by decide) rfl (hR.c hc).2.1 lk_Cd_130 d_Cd_revoke_21 (hR.c hc).2.2.1 ?_
  first | refine g_aload_n O 3 d_Cd_revoke_24 rfl rfl ?_ | refine g_aload_nq O 3 d_Cd_revoke_24 rfl rfl ?_
  have hw := hR.wf.2.2.2 c hc
  refine g_acmp_eq (x := some (A 1 (kH σ c) 0 0)) (z := some (A 1 j 0 0)) O 38 d_Cd_revoke_25 (by decide) (fun c25 => ?_) (fun c25 => ?_)
  · have hn : kH σ c = j := (hR.i 1 _ 0 0 1 j 0 0 ⟨hw.1, rfl, rfl⟩ ⟨hjj, rfl, rfl⟩ (Option.some.inj c25)).2.1
    first | refine g_aload O d_Cd_revoke_38 rfl ?_ | refine g_aloadq O d_Cd_revoke_38 rfl ?_
    refine g_iconst (v := 1) O d_Cd_revoke_40 (by decide) ?_
    refine g_putI O c_Ca 5 (by decide) rfl (hR.c hc).2.1 (Or.inr (by first | exact Or.inl rfl | exact Or.inr rfl | assumption)) (Or.inl rfl) lk_Cd_143 d_Cd_revoke_41 ?_
    first | refine g_aload_n O 0 d_Cd_revoke_44 rfl rfl ?_ | refine g_aload_nq O 0 d_Cd_revoke_44 rfl rfl ?_
    refine g_callv (N := 2) (mc := 0) (ms := 0) (av := []) O (Or.inl ⟨_, _, cw_Cd_spreadDeath⟩) pl_Cd (ci := 0) (q := q_Cd) rfl hR.top.1 ml_Cd_146 im_Cd_spreadDeath se_Cd_spreadDeath rfl d_Cd_revoke_45 rfl (Nat.le_of_ble_eq_true rfl) (Nat.le_of_ble_eq_true rfl) (Nat.le_of_ble_eq_true rfl) (Nat.le_of_ble_eq_true rfl) ?_
    refine ct_Cd_spreadDeath (rep_V hR hc true) (fun w' hR' hF' => ?_)
    change cd_Go _ _ _ _ _ _ _ _ _ _
    refine g_iret O d_Cd_revoke_48 (Nat.le_of_ble_eq_true rfl) (Nat.le_of_ble_eq_true rfl) ?_
    simp [sp_revoke, rD, rS, hs, hej, hn, hDj, hSi, hclj, hcli] at hr
    subst hr
    exact h w' A (CO.sm hR' ((cd_Fr.wI (ow_at (k := 8) ⟨hc, rfl, rfl⟩)).tr (fr_cg (τ := setV σ c true) ⟨rfl, rfl⟩ hF')) (sprd_DC (setV σ c true) _))
  · have hn : ¬ kH σ c = j := fun z => c25 (by rw [z])
    refine g_throw (E := 4) O hst ew_4 (by decide +kernel) kl_Cd_125 ia_UnsupportedOperationException in_UnsupportedOperationException ml_Cd_129 ss_Cd_141 d_Cd_revoke_28 d_Cd_revoke_31 d_Cd_revoke_32 d_Cd_revoke_34 d_Cd_revoke_37 rfl (Nat.le_of_ble_eq_true rfl) (Nat.le_of_ble_eq_true rfl) (Nat.le_of_ble_eq_true rfl) (Nat.le_of_ble_eq_true rfl) (Nat.le_of_ble_eq_true rfl) (Nat.le_of_ble_eq_true rfl) ?_
    simp [sp_revoke, rD, rF, rS, rU, hDj, hSi, hclj, hcli, hej, hs, hn] at hr
    subst hr
    exact h w A (CO.rf hR)
