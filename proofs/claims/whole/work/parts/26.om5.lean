set_option maxHeartbeats 4000000 in
set_option maxRecDepth 100000 in
theorem om_end {G : cd_Gl} {l : Launch} {w : cd_Wd} {Q : cd_Out → cd_Wd → Prop} {m : Nat} {B : Nat → Nat} {σ : cd_S} {g : Nat → Bool} (hM : RepM w m B σ g) (hL : Rel σ g) (hI : cd_Iv σ) {d : Int32} {r : cd_R} (hr : sp_end σ d = r) (h : MC w m B r Q) : cd_Ct G l y_Mo_end 3 0 0 [.ref m, .int d] w Q := by
  refine cd_ofW cw_Mo_end (by simp [Value.category, cat_rf]) (Nat.le_of_ble_eq_true rfl) fun C O => ?_
  change cd_Go G l C _ 0 0 w 0 [some (.ref m), some (.int d), none, none] []
  first | refine g_aload_n O 0 d_Mo_end_0 rfl rfl ?_ | refine g_aload_nq O 0 d_Mo_end_0 rfl rfl ?_
  refine g_iload_n O 1 d_Mo_end_1 rfl rfl ?_
  refine g_callv (N := 0) (mc := 0) (ms := 0) (av := [_]) O (Or.inl ⟨_, _, cw_Mo_noDomain⟩) pl_Mo (ci := 6) (q := q_Mo) rfl hM.km ml_Mo_78 im_Mo_noDomain se_Mo_noDomain rfl d_Mo_end_2 rfl (Nat.le_of_ble_eq_true rfl) (Nat.le_of_ble_eq_true rfl) (Nat.le_of_ble_eq_true rfl) (Nat.le_of_ble_eq_true rfl) ?_
  refine ct_Mo_noDomain hM ?_
  change cd_Go _ _ _ _ _ _ _ _ _ _
  refine g_if_eq  O 14 d_Mo_end_5 (by decide) (fun c5 => ?_) (fun c5 => ?_)
  · have hDj := (cd_nb _).mp c5
    obtain ⟨j, hjj, rfl⟩ := isD_of hM.D6 hDj
    have h6j : j < 6 := Nat.lt_of_lt_of_le hjj hM.D6
    have hclj : (nI j).toNatClampNeg = j := nI_clamp (by omega)
    first | refine g_aload_n O 0 d_Mo_end_14 rfl rfl ?_ | refine g_aload_nq O 0 d_Mo_end_14 rfl rfl ?_
    refine g_getS O c_Mo 3 (by decide) rfl hM.km lk_Mo_19 d_Mo_end_15 (hM.a 3 (by omega) (by omega)).1 ?_
    refine g_iload_n O 1 d_Mo_end_18 rfl rfl ?_
    refine g_zaldV O 1 rfl rfl (hM.a 3 (by omega) (by omega)).2.1 (by (try simp only [ln_wI]); rw [(hM.a 3 (by omega) (by omega)).2.2]; exact ix_in (n := 6) (show j < 6 from by omega) (by omega)) d_Mo_end_19 (Eq.trans (congrArg (cd_I _ (1000 + 1) (B 3)) (cl_nI (j := j) (by omega))) (hM.E h6j)) ?_
    refine g_if_eq  O 29 d_Mo_end_20 (by decide) (fun c20 => ?_) (fun c20 => ?_)
    · have hej := cd_b_eq.mp c20
      first | refine g_aload_n O 0 d_Mo_end_29 rfl rfl ?_ | refine g_aload_nq O 0 d_Mo_end_29 rfl rfl ?_
      refine g_callv (N := 2) (mc := 0) (ms := 0) (av := []) O (Or.inl ⟨_, _, cw_Mo_alive⟩) pl_Mo (ci := 6) (q := q_Mo) rfl hM.km ml_Mo_107 im_Mo_alive se_Mo_alive rfl d_Mo_end_30 rfl (Nat.le_of_ble_eq_true rfl) (Nat.le_of_ble_eq_true rfl) (Nat.le_of_ble_eq_true rfl) (Nat.le_of_ble_eq_true rfl) ?_
      refine ct_Mo_alive hM ?_
      have hSp := spr_end hI hL hM.wf j
      simp [sp_end, rD, rF, rS, rU, hDj, hclj, hej] at hr
      subst hr
      change cd_Go _ _ _ _ _ _ _ _ _ _
      refine g_istore_n O 2 d_Mo_end_33 rfl (Nat.le_of_ble_eq_true rfl) ?_
      first | refine g_aload_n O 0 d_Mo_end_34 rfl rfl ?_ | refine g_aload_nq O 0 d_Mo_end_34 rfl rfl ?_
      refine g_getS O c_Mo 3 (by decide) rfl hM.km lk_Mo_19 d_Mo_end_35 (hM.a 3 (by omega) (by omega)).1 ?_
      refine g_iload_n O 1 d_Mo_end_38 rfl rfl ?_
      refine g_iconst (v := 1) O d_Mo_end_39 (by decide) ?_
      refine g_zast O 1 rfl rfl (hM.a 3 (by omega) (by omega)).2.1 (by (try simp only [ln_wI]); rw [(hM.a 3 (by omega) (by omega)).2.2]; exact ix_in (n := 6) (show j < 6 from by omega) (by omega)) (by first | exact Or.inl rfl | exact Or.inr rfl | assumption) d_Mo_end_40 ?_
      refine g_iconst (v := 0) O d_Mo_end_41 (by decide) ?_
      refine g_istore_n O 3 d_Mo_end_42 rfl (Nat.le_of_ble_eq_true rfl) ?_
      rw [cl_nI (show j < 2 ^ 31 by omega)]
      have loop2 : ∀ (k : Nat) (v : cd_Wd), k ≤ 8 → (RepM v m B (itr (fun τ i => setS τ j i none) (itr (fun τ o => setT τ j o false) (setE σ j true) 12) k) g ∧ cd_Fr w v (mow m B)) → cd_Go G l C (cd_MQ G (cx_s C) (cx_b C) 0 0 Q) (0) (0) v 69 [some (.ref m), some (.int (nI j)), some (.int (nI (cnt (fun c => !rd σ g c) (sC σ)))), some (.int (nI k))] [] := by
        refine lp (8) (P := fun k v => RepM v m B (itr (fun τ i => setS τ j i none) (itr (fun τ o => setT τ j o false) (setE σ j true) 12) k) g ∧ cd_Fr w v (mow m B)) (g := fun k v => cd_Go G l C (cd_MQ G (cx_s C) (cx_b C) 0 0 Q) (0) (0) v 69 [some (.ref m), some (.int (nI j)), some (.int (nI (cnt (fun c => !rd σ g c) (sC σ)))), some (.int (nI k))] []) (fun v hP => ?_) (fun k v hk hP ih => ?_)
        · skip
          have hM2 := (spr_ok hSp).2.2.2.1.rm (show RepM v m B (finD σ j) g from hP.1)
          refine g_iload_n O 3 d_Mo_end_69 rfl rfl ?_
          refine g_bipush (v := 8) O d_Mo_end_70 (by decide) ?_
          refine g_icmp_ge  O 93 d_Mo_end_72 (by decide) (fun c72 => ?_) (fun c72 => ?_)
          · first | refine g_aload_n O 0 d_Mo_end_93 rfl rfl ?_ | refine g_aload_nq O 0 d_Mo_end_93 rfl rfl ?_
            refine g_iload_n O 2 d_Mo_end_94 rfl rfl ?_
            first | refine g_aload_n O 0 d_Mo_end_95 rfl rfl ?_ | refine g_aload_nq O 0 d_Mo_end_95 rfl rfl ?_
            refine g_callv (N := 2) (mc := 0) (ms := 0) (av := []) O (Or.inl ⟨_, _, cw_Mo_alive⟩) pl_Mo (ci := 6) (q := q_Mo) rfl hM2.km ml_Mo_107 im_Mo_alive se_Mo_alive rfl d_Mo_end_96 rfl (Nat.le_of_ble_eq_true rfl) (Nat.le_of_ble_eq_true rfl) (Nat.le_of_ble_eq_true rfl) (Nat.le_of_ble_eq_true rfl) ?_
            refine ct_Mo_alive hM2 ?_
            change cd_Go _ _ _ _ _ _ _ _ _ _
            refine g_isub O d_Mo_end_99 ?_
            rw [died hSp]
            refine g_callv (N := 0) (mc := 0) (ms := 0) (av := [_]) O (Or.inl ⟨_, _, cw_Mo_fine⟩) pl_Mo (ci := 6) (q := q_Mo) rfl hM2.km ml_Mo_87 im_Mo_fine se_Mo_fine rfl d_Mo_end_100 rfl (Nat.le_of_ble_eq_true rfl) (Nat.le_of_ble_eq_true rfl) (Nat.le_of_ble_eq_true rfl) (Nat.le_of_ble_eq_true rfl) ?_
            refine ct_Mo_fine hM2.km ?_
            change cd_Go _ _ _ _ _ _ _ _ _ _
            refine g_iret O d_Mo_end_103 (Nat.le_of_ble_eq_true rfl) (Nat.le_of_ble_eq_true rfl) ?_
            exact MC.fine hM2 (spr_ok hSp).1 hP.2 h
          · exact absurd (show (8 : Int32) ≤ nI 8 from by decide) c72
        · skip
          obtain ⟨hM, hF⟩ := hP
          refine g_iload_n O 3 d_Mo_end_69 rfl rfl ?_
          refine g_bipush (v := 8) O d_Mo_end_70 (by decide) ?_
          refine g_icmp_ge  O 93 d_Mo_end_72 (by decide) (fun c72 => ?_) (fun c72 => ?_)
          · exact absurd c72 (nI_ge (b := 8) hk (by omega))
          · first | refine g_aload_n O 0 d_Mo_end_75 rfl rfl ?_ | refine g_aload_nq O 0 d_Mo_end_75 rfl rfl ?_
            refine g_getS O c_Mo 7 (by decide) rfl hM.km lk_Mo_33 d_Mo_end_76 (hM.a 7 (by omega) (by omega)).1 ?_
            refine g_iload_n O 1 d_Mo_end_79 rfl rfl ?_
            refine g_bipush (v := 8) O d_Mo_end_80 (by decide) ?_
            refine g_imul O d_Mo_end_82 ?_
            refine g_iload_n O 3 d_Mo_end_83 rfl rfl ?_
            refine g_iadd O d_Mo_end_84 ?_
            rw [m8, nI_add]
            refine g_iconst (v := -1) O d_Mo_end_85 (by decide) ?_
            refine g_iast O 0 rfl rfl (hM.a 7 (by omega) (by omega)).2.1 (by (try simp only [ln_wI]); rw [(hM.a 7 (by omega) (by omega)).2.2]; exact ix_in (n := 48) (show j * 8 + k < 48 from by omega) (by omega)) d_Mo_end_86 ?_
            first | refine g_iinc O d_Mo_end_87 rfl (ic1 _) ?_ | refine g_iinc O d_Mo_end_87 rfl rfl ?_
            refine g_goto O 69 d_Mo_end_90 (by decide) ?_
            rw [cl_nI (by omega)]
            exact ih _ ⟨rm_S hM j hk none (fun _ z => by cases z), hF.tr (cd_Fr.wI (mow_k (k := 7) (by omega) (by omega)))⟩
      have loop1 : ∀ (k : Nat) (v : cd_Wd), k ≤ 12 → (RepM v m B (itr (fun τ o => setT τ j o false) (setE σ j true) k) g ∧ cd_Fr w v (mow m B)) → cd_Go G l C (cd_MQ G (cx_s C) (cx_b C) 0 0 Q) (0) (0) v 43 [some (.ref m), some (.int (nI j)), some (.int (nI (cnt (fun c => !rd σ g c) (sC σ)))), some (.int (nI k))] [] := by
        refine lp (12) (P := fun k v => RepM v m B (itr (fun τ o => setT τ j o false) (setE σ j true) k) g ∧ cd_Fr w v (mow m B)) (g := fun k v => cd_Go G l C (cd_MQ G (cx_s C) (cx_b C) 0 0 Q) (0) (0) v 43 [some (.ref m), some (.int (nI j)), some (.int (nI (cnt (fun c => !rd σ g c) (sC σ)))), some (.int (nI k))] []) (fun v hP => ?_) (fun k v hk hP ih => ?_)
        · skip
          refine g_iload_n O 3 d_Mo_end_43 rfl rfl ?_
          refine g_bipush (v := 12) O d_Mo_end_44 (by decide) ?_
          refine g_icmp_ge  O 67 d_Mo_end_46 (by decide) (fun c46 => ?_) (fun c46 => ?_)
          · refine g_iconst (v := 0) O d_Mo_end_67 (by decide) ?_
            refine g_istore_n O 3 d_Mo_end_68 rfl (Nat.le_of_ble_eq_true rfl) ?_
            exact loop2 0 v (by omega) hP
          · exact absurd (show (12 : Int32) ≤ nI 12 from by decide) c46
        · skip
          obtain ⟨hM, hF⟩ := hP
          refine g_iload_n O 3 d_Mo_end_43 rfl rfl ?_
          refine g_bipush (v := 12) O d_Mo_end_44 (by decide) ?_
          refine g_icmp_ge  O 67 d_Mo_end_46 (by decide) (fun c46 => ?_) (fun c46 => ?_)
          · exact absurd c46 (nI_ge (b := 12) hk (by omega))
          · first | refine g_aload_n O 0 d_Mo_end_49 rfl rfl ?_ | refine g_aload_nq O 0 d_Mo_end_49 rfl rfl ?_
            refine g_getS O c_Mo 4 (by decide) rfl hM.km lk_Mo_23 d_Mo_end_50 (hM.a 4 (by omega) (by omega)).1 ?_
            refine g_iload_n O 1 d_Mo_end_53 rfl rfl ?_
            refine g_bipush (v := 12) O d_Mo_end_54 (by decide) ?_
            refine g_imul O d_Mo_end_56 ?_
            refine g_iload_n O 3 d_Mo_end_57 rfl rfl ?_
            refine g_iadd O d_Mo_end_58 ?_
            rw [m12, nI_add]
            refine g_iconst (v := 0) O d_Mo_end_59 (by decide) ?_
            refine g_zast O 1 rfl rfl (hM.a 4 (by omega) (by omega)).2.1 (by (try simp only [ln_wI]); rw [(hM.a 4 (by omega) (by omega)).2.2]; exact ix_in (n := 72) (show j * 12 + k < 72 from by omega) (by omega)) (by first | exact Or.inl rfl | exact Or.inr rfl | assumption) d_Mo_end_60 ?_
            first | refine g_iinc O d_Mo_end_61 rfl (ic1 _) ?_ | refine g_iinc O d_Mo_end_61 rfl rfl ?_
            refine g_goto O 43 d_Mo_end_64 (by decide) ?_
            rw [cl_nI (by omega)]
            exact ih _ ⟨rm_T hM j hk false, hF.tr (cd_Fr.wI (mow_k (k := 4) (by omega) (by omega)))⟩
      exact loop1 0 _ (by omega) ⟨rm_E hM j true, cd_Fr.wI (mow_k (k := 3) (by omega) (by omega))⟩
    · have hej := cd_b_ne.mp c20
      simp [sp_end, rD, rF, rS, rU, hDj, hclj, hej] at hr
      subst hr
      first | refine g_aload_n O 0 d_Mo_end_23 rfl rfl ?_ | refine g_aload_nq O 0 d_Mo_end_23 rfl rfl ?_
      refine g_iconst (v := 2) O d_Mo_end_24 (by decide) ?_
      refine g_callv (N := 0) (mc := 0) (ms := 0) (av := [_]) O (Or.inl ⟨_, _, cw_Mo_fail⟩) pl_Mo (ci := 6) (q := q_Mo) rfl hM.km ml_Mo_84 im_Mo_fail se_Mo_fail rfl d_Mo_end_25 rfl (Nat.le_of_ble_eq_true rfl) (Nat.le_of_ble_eq_true rfl) (Nat.le_of_ble_eq_true rfl) (Nat.le_of_ble_eq_true rfl) ?_
      refine ct_Mo_fail hM.km ?_
      change cd_Go _ _ _ _ _ _ _ _ _ _
      refine g_iret O d_Mo_end_28 (Nat.le_of_ble_eq_true rfl) (Nat.le_of_ble_eq_true rfl) ?_
      exact MC.fail (c := 2) (by decide) hM hL cd_Fr.rf h
  · have hn := (cd_nbn _).mp c5
    simp [sp_end, rD, rF, rS, rU, hn] at hr
    subst hr
    first | refine g_aload_n O 0 d_Mo_end_8 rfl rfl ?_ | refine g_aload_nq O 0 d_Mo_end_8 rfl rfl ?_
    refine g_iconst (v := 1) O d_Mo_end_9 (by decide) ?_
    refine g_callv (N := 0) (mc := 0) (ms := 0) (av := [_]) O (Or.inl ⟨_, _, cw_Mo_fail⟩) pl_Mo (ci := 6) (q := q_Mo) rfl hM.km ml_Mo_84 im_Mo_fail se_Mo_fail rfl d_Mo_end_10 rfl (Nat.le_of_ble_eq_true rfl) (Nat.le_of_ble_eq_true rfl) (Nat.le_of_ble_eq_true rfl) (Nat.le_of_ble_eq_true rfl) ?_
    refine ct_Mo_fail hM.km ?_
    change cd_Go _ _ _ _ _ _ _ _ _ _
    refine g_iret O d_Mo_end_13 (Nat.le_of_ble_eq_true rfl) (Nat.le_of_ble_eq_true rfl) ?_
    exact MC.fail (c := 1) (by decide) hM hL cd_Fr.rf h
/-- one field of the domain: its link to t goes -/
def ulK (d t : Nat) (p : cd_S × Nat) (k : Nat) : cd_S × Nat := if sT p.1 d (k / 3) = true then ulF d t (k / 3) p (k % 3) else p
theorem ulK_3 (d t : Nat) (p : cd_S × Nat) (n : Nat) : itr (ulK d t) p (3 * n) = itr (ulO d t) p n := by
  induction n with
  | zero => rfl
  | succ n ih =>
    have e : 3 * (n + 1) = 3 * n + 1 + 1 + 1 := by omega
    rw [e, itr_s, itr_s, itr_s, ih, itr_s]
    generalize itr (ulO d t) p n = q
    have d0 : 3 * n / 3 = n := by omega
    have d1 : (3 * n + 1) / 3 = n := by omega
    have d2 : (3 * n + 1 + 1) / 3 = n := by omega
    have m0 : 3 * n % 3 = 0 := by omega
    have m1 : (3 * n + 1) % 3 = 1 := by omega
    have m2 : (3 * n + 1 + 1) % 3 = 2 := by omega
    simp only [ulK, d0, d1, d2, m0, m1, m2, ulO]
    by_cases h : sT q.1 d n = true
    · simp only [h, ulF_T, if_true]
      rfl
    · have h' : sT q.1 d n = false := Bool.eq_false_iff.mpr h
      simp only [h', Bool.false_eq_true, if_false]
theorem ulK_k (d t : Nat) (p : cd_S × Nat) (n : Nat) : eqK p.1 (itr (ulK d t) p n).1 ∧ (∀ d' o', sT (itr (ulK d t) p n).1 d' o' = sT p.1 d' o') := by
  refine itr_inv (s := ulK d t) (fun q : cd_S × Nat => eqK p.1 q.1 ∧ ∀ d' o', sT q.1 d' o' = sT p.1 d' o') ⟨eqK.rf, fun _ _ => rfl⟩ (fun q j hq => ?_) n
  unfold ulK
  split
  · refine ⟨hq.1.tr ?_, fun d' o' => (ulF_T _ _ _ _ _ _ _).trans (hq.2 d' o')⟩
    unfold ulF
    split
    · exact setF_eqK _ _ _ _ _
    · exact eqK.rf
  · exact hq
theorem gFr_0 (σ : cd_S) (g : Nat → Bool) (z : Nat) : gFr σ g z 0 = g := by
  funext k
  rw [gFr, if_neg (by omega)]
theorem gFr_t {σ : cd_S} {g : Nat → Bool} {z n : Nat} (h : kH σ n * 12 + kT σ n = z) : gFr σ g z (n + 1) = fun k => if k = n then true else gFr σ g z n k := by
  funext k
  simp only [gFr]
  by_cases e : k = n
  · subst e
    rw [if_pos ⟨by omega, h⟩, if_pos rfl]
  · rw [if_neg e]
    by_cases e2 : k < n ∧ kH σ k * 12 + kT σ k = z
    · rw [if_pos e2, if_pos ⟨by omega, e2.2⟩]
    · rw [if_neg e2, if_neg (fun q => e2 ⟨by omega, q.2⟩)]
theorem gFr_f {σ : cd_S} {g : Nat → Bool} {z n : Nat} (h : ¬ kH σ n * 12 + kT σ n = z) : gFr σ g z (n + 1) = gFr σ g z n := by
  funext k
  simp only [gFr]
  by_cases e2 : k < n ∧ kH σ k * 12 + kT σ k = z
  · rw [if_pos e2, if_pos ⟨by omega, e2.2⟩]
  · rw [if_neg e2, if_neg (fun q => e2 ⟨by
      rcases Nat.lt_or_ge k n with q1 | q1
      · exact q1
      · obtain rfl : k = n := by omega
        exact absurd q.2 h, q.2⟩)]
theorem r12 {h t : Nat} (hh : h < 6) (ht : t < 12) : nI (h * 12 + t) - nI (h * 12 + t) / 12 * 12 = nI t := by
  rw [d12 hh ht, m12, nI_sub (by omega)]
  congr 1
  omega
theorem d3 {k : Nat} (hk : k < 2 ^ 31) : nI k / 3 = nI (k / 3) := nI_div (b := 3) hk (by omega)
theorem ulK_ok {σ : cd_S} (hI : cd_Iv σ) (c n : Nat) : ∀ d o f, fOk (sF (itr (ulK (kH σ c) (kT σ c)) ((setT (spend σ c) (kH σ c) (kT σ c) false), 0) n).1 d o f) := by
  refine itr_inv (s := ulK (kH σ c) (kT σ c)) (a := ((setT (spend σ c) (kH σ c) (kT σ c) false), 0)) (fun q : cd_S × Nat => ∀ d o f, fOk (sF q.1 d o f)) (fun d o f => ?_) (fun q j hq d o f => ?_) n
  · have e : sF (setT (spend σ c) (kH σ c) (kT σ c) false) d o f = sF σ d o f := (spend_eqv σ c).2.2.2.1 d o f
    exact e ▸ hI.2.2.1 d o f
  · unfold ulK
    split
    · rcases ulF_F (kH σ c) (kT σ c) (j / 3) q (j % 3) d o f with z | z
      · rw [z]; exact hq d o f
      · rw [z]; exact fOk_n 0
    · exact hq d o f
set_option maxHeartbeats 4000000 in
set_option maxRecDepth 100000 in
theorem om_free {G : cd_Gl} {l : Launch} {w : cd_Wd} {Q : cd_Out → cd_Wd → Prop} {m : Nat} {B : Nat → Nat} {σ : cd_S} {g : Nat → Bool} (hM : RepM w m B σ g) (hL : Rel σ g) (hI : cd_Iv σ) {d s : Int32} {r : cd_R} (hr : sp_free σ d s = r) (h : MC w m B r Q) : cd_Ct G l y_Mo_free 3 0 0 [.ref m, .int d, .int s] w Q := by
  refine cd_ofW cw_Mo_free (by simp [Value.category, cat_rf]) (Nat.le_of_ble_eq_true rfl) fun C O => ?_
  change cd_Go G l C _ 0 0 w 0 [some (.ref m), some (.int d), some (.int s), none, none, none, none, none] []
  first | refine g_aload_n O 0 d_Mo_free_0 rfl rfl ?_ | refine g_aload_nq O 0 d_Mo_free_0 rfl rfl ?_
  refine g_iload_n O 1 d_Mo_free_1 rfl rfl ?_
  refine g_iload_n O 2 d_Mo_free_2 rfl rfl ?_
  refine g_bipush (v := 16) O d_Mo_free_3 (by decide) ?_
  refine g_callv (N := 2) (mc := 0) (ms := 0) (av := [_, _, _]) O (Or.inl ⟨_, _, cw_Mo_useFails⟩) pl_Mo (ci := 6) (q := q_Mo) rfl hM.km ml_Mo_111 im_Mo_useFails se_Mo_useFails rfl d_Mo_free_5 rfl (Nat.le_of_ble_eq_true rfl) (Nat.le_of_ble_eq_true rfl) (Nat.le_of_ble_eq_true rfl) (Nat.le_of_ble_eq_true rfl) ?_
  refine ct_Mo_useFails hM hL (Or.inr (Or.inr (Or.inr (Or.inr rfl)))) (fun e => ?_) (fun j i hjj ej hii ei hej => ?_) (fun j i hjj ej hii ei hej hs => ?_) (fun j i c hjj ej hii ei hej hs hc hxu => ?_) (fun j i c hjj ej hii ei hej hs hc hxu hal => ?_) (fun j i c hjj ej hii ei hej hs hc hxu hal => ?_)
  · simp [sp_free, rD, rF, rS, rU, e] at hr
    subst hr
    change cd_Go _ _ _ _ _ _ _ _ _ _
    refine g_istore_n O 3 d_Mo_free_8 rfl (Nat.le_of_ble_eq_true rfl) ?_
    refine g_iload_n O 3 d_Mo_free_9 rfl rfl ?_
    refine g_if_eq  O 19 d_Mo_free_10 (by decide) (fun c10 => ?_) (fun c10 => ?_)
    · exact absurd c10 (by decide)
    · first | refine g_aload_n O 0 d_Mo_free_13 rfl rfl ?_ | refine g_aload_nq O 0 d_Mo_free_13 rfl rfl ?_
      refine g_iload_n O 3 d_Mo_free_14 rfl rfl ?_
      refine g_callv (N := 0) (mc := 0) (ms := 0) (av := [_]) O (Or.inl ⟨_, _, cw_Mo_fail⟩) pl_Mo (ci := 6) (q := q_Mo) rfl hM.km ml_Mo_84 im_Mo_fail se_Mo_fail rfl d_Mo_free_15 rfl (Nat.le_of_ble_eq_true rfl) (Nat.le_of_ble_eq_true rfl) (Nat.le_of_ble_eq_true rfl) (Nat.le_of_ble_eq_true rfl) ?_
      refine ct_Mo_fail hM.km ?_
      change cd_Go _ _ _ _ _ _ _ _ _ _
      refine g_iret O d_Mo_free_18 (Nat.le_of_ble_eq_true rfl) (Nat.le_of_ble_eq_true rfl) ?_
      exact MC.fail (c := 1) (by decide) hM hL cd_Fr.rf h
  · subst ej ei
    have h6j : j < 6 := Nat.lt_of_lt_of_le hjj hM.D6
    have hclj : (nI j).toNatClampNeg = j := nI_clamp (by omega)
    have hcli : (nI i).toNatClampNeg = i := nI_clamp (by omega)
    have hDj : isD σ (nI j) = true := isD_nI hjj hM.D6
    have hSi : isSl (nI i) = true := isSl_nI hii
    simp [sp_free, rD, rF, rS, rU, hDj, hSi, hclj, hcli, hej] at hr
    subst hr
    change cd_Go _ _ _ _ _ _ _ _ _ _
    refine g_istore_n O 3 d_Mo_free_8 rfl (Nat.le_of_ble_eq_true rfl) ?_
    refine g_iload_n O 3 d_Mo_free_9 rfl rfl ?_
    refine g_if_eq  O 19 d_Mo_free_10 (by decide) (fun c10 => ?_) (fun c10 => ?_)
    · exact absurd c10 (by decide)
    · first | refine g_aload_n O 0 d_Mo_free_13 rfl rfl ?_ | refine g_aload_nq O 0 d_Mo_free_13 rfl rfl ?_
      refine g_iload_n O 3 d_Mo_free_14 rfl rfl ?_
      refine g_callv (N := 0) (mc := 0) (ms := 0) (av := [_]) O (Or.inl ⟨_, _, cw_Mo_fail⟩) pl_Mo (ci := 6) (q := q_Mo) rfl hM.km ml_Mo_84 im_Mo_fail se_Mo_fail rfl d_Mo_free_15 rfl (Nat.le_of_ble_eq_true rfl) (Nat.le_of_ble_eq_true rfl) (Nat.le_of_ble_eq_true rfl) (Nat.le_of_ble_eq_true rfl) ?_
      refine ct_Mo_fail hM.km ?_
      change cd_Go _ _ _ _ _ _ _ _ _ _
      refine g_iret O d_Mo_free_18 (Nat.le_of_ble_eq_true rfl) (Nat.le_of_ble_eq_true rfl) ?_
      exact MC.fail (c := 2) (by decide) hM hL cd_Fr.rf h
  · subst ej ei
    have h6j : j < 6 := Nat.lt_of_lt_of_le hjj hM.D6
    have hclj : (nI j).toNatClampNeg = j := nI_clamp (by omega)
    have hcli : (nI i).toNatClampNeg = i := nI_clamp (by omega)
    have hDj : isD σ (nI j) = true := isD_nI hjj hM.D6
    have hSi : isSl (nI i) = true := isSl_nI hii
    simp [sp_free, rD, rF, rS, rU, hDj, hSi, hclj, hcli, hej, hs] at hr
    subst hr
    change cd_Go _ _ _ _ _ _ _ _ _ _
    refine g_istore_n O 3 d_Mo_free_8 rfl (Nat.le_of_ble_eq_true rfl) ?_
    refine g_iload_n O 3 d_Mo_free_9 rfl rfl ?_
    refine g_if_eq  O 19 d_Mo_free_10 (by decide) (fun c10 => ?_) (fun c10 => ?_)
    · exact absurd c10 (by decide)
    · first | refine g_aload_n O 0 d_Mo_free_13 rfl rfl ?_ | refine g_aload_nq O 0 d_Mo_free_13 rfl rfl ?_
      refine g_iload_n O 3 d_Mo_free_14 rfl rfl ?_
      refine g_callv (N := 0) (mc := 0) (ms := 0) (av := [_]) O (Or.inl ⟨_, _, cw_Mo_fail⟩) pl_Mo (ci := 6) (q := q_Mo) rfl hM.km ml_Mo_84 im_Mo_fail se_Mo_fail rfl d_Mo_free_15 rfl (Nat.le_of_ble_eq_true rfl) (Nat.le_of_ble_eq_true rfl) (Nat.le_of_ble_eq_true rfl) (Nat.le_of_ble_eq_true rfl) ?_
      refine ct_Mo_fail hM.km ?_
      change cd_Go _ _ _ _ _ _ _ _ _ _
      refine g_iret O d_Mo_free_18 (Nat.le_of_ble_eq_true rfl) (Nat.le_of_ble_eq_true rfl) ?_
      exact MC.fail (c := 3) (by decide) hM hL cd_Fr.rf h
  · subst ej ei
    have h6j : j < 6 := Nat.lt_of_lt_of_le hjj hM.D6
    have hclj : (nI j).toNatClampNeg = j := nI_clamp (by omega)
    have hcli : (nI i).toNatClampNeg = i := nI_clamp (by omega)
    have hDj : isD σ (nI j) = true := isD_nI hjj hM.D6
    have hSi : isSl (nI i) = true := isSl_nI hii
    have hxu := Bool.or_eq_true_iff.mp hxu
    simp [sp_free, rD, rF, rS, rU, hDj, hSi, hclj, hcli, hej, hs, hxu] at hr
    subst hr
    change cd_Go _ _ _ _ _ _ _ _ _ _
    refine g_istore_n O 3 d_Mo_free_8 rfl (Nat.le_of_ble_eq_true rfl) ?_
    refine g_iload_n O 3 d_Mo_free_9 rfl rfl ?_
    refine g_if_eq  O 19 d_Mo_free_10 (by decide) (fun c10 => ?_) (fun c10 => ?_)
    · exact absurd c10 (by decide)
    · first | refine g_aload_n O 0 d_Mo_free_13 rfl rfl ?_ | refine g_aload_nq O 0 d_Mo_free_13 rfl rfl ?_
      refine g_iload_n O 3 d_Mo_free_14 rfl rfl ?_
      refine g_callv (N := 0) (mc := 0) (ms := 0) (av := [_]) O (Or.inl ⟨_, _, cw_Mo_fail⟩) pl_Mo (ci := 6) (q := q_Mo) rfl hM.km ml_Mo_84 im_Mo_fail se_Mo_fail rfl d_Mo_free_15 rfl (Nat.le_of_ble_eq_true rfl) (Nat.le_of_ble_eq_true rfl) (Nat.le_of_ble_eq_true rfl) (Nat.le_of_ble_eq_true rfl) ?_
      refine ct_Mo_fail hM.km ?_
      change cd_Go _ _ _ _ _ _ _ _ _ _
      refine g_iret O d_Mo_free_18 (Nat.le_of_ble_eq_true rfl) (Nat.le_of_ble_eq_true rfl) ?_
      exact MC.fail (c := 2) (by decide) hM hL cd_Fr.rf h
  · subst ej ei
    have h6j : j < 6 := Nat.lt_of_lt_of_le hjj hM.D6
    have hclj : (nI j).toNatClampNeg = j := nI_clamp (by omega)
    have hcli : (nI i).toNatClampNeg = i := nI_clamp (by omega)
    have hDj : isD σ (nI j) = true := isD_nI hjj hM.D6
    have hSi : isSl (nI i) = true := isSl_nI hii
    have hxu := Bool.or_eq_false_iff.mp hxu
    simp [sp_free, rD, rF, rS, rU, hDj, hSi, hclj, hcli, hej, hs, hxu, hal] at hr
    subst hr
    change cd_Go _ _ _ _ _ _ _ _ _ _
    refine g_istore_n O 3 d_Mo_free_8 rfl (Nat.le_of_ble_eq_true rfl) ?_
    refine g_iload_n O 3 d_Mo_free_9 rfl rfl ?_
    refine g_if_eq  O 19 d_Mo_free_10 (by decide) (fun c10 => ?_) (fun c10 => ?_)
    · exact absurd c10 (by decide)
    · first | refine g_aload_n O 0 d_Mo_free_13 rfl rfl ?_ | refine g_aload_nq O 0 d_Mo_free_13 rfl rfl ?_
      refine g_iload_n O 3 d_Mo_free_14 rfl rfl ?_
      refine g_callv (N := 0) (mc := 0) (ms := 0) (av := [_]) O (Or.inl ⟨_, _, cw_Mo_fail⟩) pl_Mo (ci := 6) (q := q_Mo) rfl hM.km ml_Mo_84 im_Mo_fail se_Mo_fail rfl d_Mo_free_15 rfl (Nat.le_of_ble_eq_true rfl) (Nat.le_of_ble_eq_true rfl) (Nat.le_of_ble_eq_true rfl) (Nat.le_of_ble_eq_true rfl) ?_
      refine ct_Mo_fail hM.km ?_
      change cd_Go _ _ _ _ _ _ _ _ _ _
      refine g_iret O d_Mo_free_18 (Nat.le_of_ble_eq_true rfl) (Nat.le_of_ble_eq_true rfl) ?_
      exact MC.fail (c := 4) (by decide) hM hL cd_Fr.rf h
  subst ej ei
  have h6j : j < 6 := Nat.lt_of_lt_of_le hjj hM.D6
  have hclj : (nI j).toNatClampNeg = j := nI_clamp (by omega)
  have hcli : (nI i).toNatClampNeg = i := nI_clamp (by omega)
  have hDj : isD σ (nI j) = true := isD_nI hjj hM.D6
  have hSi : isSl (nI i) = true := isSl_nI hii
  have hxu := Bool.or_eq_false_iff.mp hxu
  obtain ⟨l1, l2, l3⟩ := hI.lv hc hxu.1
  have hw := hM.hw hc
  have hC := hM.C40
  change cd_Go _ _ _ _ _ _ _ _ _ _
  refine g_istore_n O 3 d_Mo_free_8 rfl (Nat.le_of_ble_eq_true rfl) ?_
  refine g_iload_n O 3 d_Mo_free_9 rfl rfl ?_
  refine g_if_eq  O 19 d_Mo_free_10 (by decide) (fun c10 => ?_) (fun c10 => ?_)
  · first | refine g_aload_n O 0 d_Mo_free_19 rfl rfl ?_ | refine g_aload_nq O 0 d_Mo_free_19 rfl rfl ?_
    refine g_getS O c_Mo 7 (by decide) rfl hM.km lk_Mo_33 d_Mo_free_20 (hM.a 7 (by omega) (by omega)).1 ?_
    refine g_iload_n O 1 d_Mo_free_23 rfl rfl ?_
    refine g_bipush (v := 8) O d_Mo_free_24 (by decide) ?_
    refine g_imul O d_Mo_free_26 ?_
    refine g_iload_n O 2 d_Mo_free_27 rfl rfl ?_
    refine g_iadd O d_Mo_free_28 ?_
    rw [m8, nI_add]
    refine g_ialdV O 0 rfl rfl (hM.a 7 (by omega) (by omega)).2.1 (by (try simp only [ln_wI]); rw [(hM.a 7 (by omega) (by omega)).2.2]; exact ix_in (n := 48) (show j * 8 + i < 48 from by omega) (by omega)) d_Mo_free_29 (Eq.trans (congrArg (cd_I _ (1000 + 0) (B 7)) (cl_nI (j := j * 8 + i) (by omega))) (((hM.S h6j hii).trans (congrArg cd_l hs) : _ = nI c))) ?_
    refine g_istore O d_Mo_free_30 (Nat.le_of_ble_eq_true rfl) ?_
    first | refine g_aload_n O 0 d_Mo_free_32 rfl rfl ?_ | refine g_aload_nq O 0 d_Mo_free_32 rfl rfl ?_
    refine g_getS O c_Mo 8 (by decide) rfl hM.km lk_Mo_36 d_Mo_free_33 (hM.a 8 (by omega) (by omega)).1 ?_
    refine g_iload O d_Mo_free_36 rfl ?_
    refine g_ialdV O 0 rfl rfl (hM.a 8 (by omega) (by omega)).2.1 (by (try simp only [ln_wI]); rw [(hM.a 8 (by omega) (by omega)).2.2]; exact ix_in (n := 40) (show c < 40 from by omega) (by omega)) d_Mo_free_38 (Eq.trans (congrArg (cd_I _ (1000 + 0) (B 8)) (cl_nI (j := c) (by omega))) ((hM.K hc).1)) ?_
    refine g_istore O d_Mo_free_39 (Nat.le_of_ble_eq_true rfl) ?_
    refine g_iconst (v := 0) O d_Mo_free_41 (by decide) ?_
    refine g_istore O d_Mo_free_42 (Nat.le_of_ble_eq_true rfl) ?_
    first | refine g_aload_n O 0 d_Mo_free_44 rfl rfl ?_ | refine g_aload_nq O 0 d_Mo_free_44 rfl rfl ?_
    refine g_iload O d_Mo_free_45 rfl ?_
    refine g_callv (N := 0) (mc := 0) (ms := 0) (av := [_]) O (Or.inl ⟨_, _, cw_Mo_use⟩) pl_Mo (ci := 6) (q := q_Mo) rfl hM.km ml_Mo_115 im_Mo_use se_Mo_use rfl d_Mo_free_47 rfl (Nat.le_of_ble_eq_true rfl) (Nat.le_of_ble_eq_true rfl) (Nat.le_of_ble_eq_true rfl) (Nat.le_of_ble_eq_true rfl) ?_
    refine ct_Mo_use hM hc (fun w1 hM1 hF1 => ?_)
    have hSp := spr_free (c := c) (h := kH σ c) (t := kT σ c) hI hL hM.wf hw.2.2.1
    obtain ⟨s1, s2, s3, s4, s5, s6, s7, s8, s9, s10⟩ := spend_eqv σ c
    simp [sp_free, rD, rF, rS, rU, hDj, hSi, hclj, hcli, hej, hs, hxu, hal] at hr
    subst hr
    change cd_Go _ _ _ _ _ _ _ _ _ _
    first | refine g_aload_n O 0 d_Mo_free_50 rfl rfl ?_ | refine g_aload_nq O 0 d_Mo_free_50 rfl rfl ?_
    refine g_getS O c_Mo 4 (by decide) rfl hM1.km lk_Mo_23 d_Mo_free_51 (hM1.a 4 (by omega) (by omega)).1 ?_
    refine g_iload O d_Mo_free_54 rfl ?_
    refine g_iconst (v := 0) O d_Mo_free_56 (by decide) ?_
    refine g_zast O 1 rfl rfl (hM1.a 4 (by omega) (by omega)).2.1 (by (try simp only [ln_wI]); rw [(hM1.a 4 (by omega) (by omega)).2.2]; exact ix_in (n := 72) (show kH σ c * 12 + kT σ c < 72 from by omega) (by omega)) (by first | exact Or.inl rfl | exact Or.inr rfl | assumption) d_Mo_free_57 ?_
    refine g_iconst (v := 0) O d_Mo_free_58 (by decide) ?_
    refine g_istore O d_Mo_free_59 (Nat.le_of_ble_eq_true rfl) ?_
    rw [cl_nI (show kH σ c * 12 + kT σ c < 2 ^ 31 by omega)]
    have hw0 : ∀ k, k < sC σ → kH σ k < 6 ∧ kT σ k < 12 := fun k hk => ⟨(hM.hw hk).1, (hM.hw hk).2.2.1⟩
    have loopB : ∀ (k : Nat) (v : cd_Wd), k ≤ 36 → (RepM v m B (itr (ulK (kH σ c) (kT σ c)) ((setT (spend σ c) (kH σ c) (kT σ c) false), 0) k).1 (gFr σ g (kH σ c * 12 + kT σ c) (sC σ)) ∧ cd_Fr w v (mow m B)) → cd_Go G l C (cd_MQ G (cx_s C) (cx_b C) 0 0 Q) (0) (0) v 107 [some (.ref m), some (.int (nI j)), some (.int (nI i)), some (.int 0), some (.int (nI c)), some (.int (nI (kH σ c * 12 + kT σ c))), some (.int (nI (itr (ulK (kH σ c) (kT σ c)) ((setT (spend σ c) (kH σ c) (kT σ c) false), 0) k).2)), some (.int (nI (kH σ c * 36 + k)))] [] := by
      refine lp (36) (P := fun k v => RepM v m B (itr (ulK (kH σ c) (kT σ c)) ((setT (spend σ c) (kH σ c) (kT σ c) false), 0) k).1 (gFr σ g (kH σ c * 12 + kT σ c) (sC σ)) ∧ cd_Fr w v (mow m B)) (g := fun k v => cd_Go G l C (cd_MQ G (cx_s C) (cx_b C) 0 0 Q) (0) (0) v 107 [some (.ref m), some (.int (nI j)), some (.int (nI i)), some (.int 0), some (.int (nI c)), some (.int (nI (kH σ c * 12 + kT σ c))), some (.int (nI (itr (ulK (kH σ c) (kT σ c)) ((setT (spend σ c) (kH σ c) (kT σ c) false), 0) k).2)), some (.int (nI (kH σ c * 36 + k)))] []) (fun v hP => ?_) (fun k v hk hP ih => ?_)
      · skip
        have hM := hP.1
        obtain ⟨u1, u2⟩ := ulK_k (kH σ c) (kT σ c) ((setT (spend σ c) (kH σ c) (kT σ c) false), 0) 36
        have hc1 : c < sC (itr (ulK (kH σ c) (kT σ c)) ((setT (spend σ c) (kH σ c) (kT σ c) false), 0) 36).1 := by rw [u1.1.2]; exact s1.2 ▸ hc
        have hk1 : kH (itr (ulK (kH σ c) (kT σ c)) ((setT (spend σ c) (kH σ c) (kT σ c) false), 0) 36).1 c = kH σ c := (u1.k c).1.trans (s6 c)
        refine g_iload O d_Mo_free_107 rfl ?_
        first | refine g_aload_n O 0 d_Mo_free_109 rfl rfl ?_ | refine g_aload_nq O 0 d_Mo_free_109 rfl rfl ?_
        refine g_iload O d_Mo_free_110 rfl ?_
        refine g_callv (N := 0) (mc := 0) (ms := 0) (av := [_]) O (Or.inl ⟨_, _, cw_Mo_home⟩) pl_Mo (ci := 6) (q := q_Mo) rfl hM.km ml_Mo_70 im_Mo_home se_Mo_home rfl d_Mo_free_112 rfl (Nat.le_of_ble_eq_true rfl) (Nat.le_of_ble_eq_true rfl) (Nat.le_of_ble_eq_true rfl) (Nat.le_of_ble_eq_true rfl) ?_
        refine ct_Mo_home hM hc1 ?_
        rw [hk1]
        change cd_Go _ _ _ _ _ _ _ _ _ _
        refine g_bipush (v := 36) O d_Mo_free_115 (by decide) ?_
        refine g_imul O d_Mo_free_117 ?_
        refine g_bipush (v := 36) O d_Mo_free_118 (by decide) ?_
        refine g_iadd O d_Mo_free_120 ?_
        rw [m36, show (36 : Int32) = nI 36 from rfl, nI_add]
        refine g_icmp_ge  O 182 d_Mo_free_121 (by decide) (fun c121 => ?_) (fun c121 => ?_)
        · first | refine g_aload_n O 0 d_Mo_free_182 rfl rfl ?_ | refine g_aload_nq O 0 d_Mo_free_182 rfl rfl ?_
          refine g_iload O d_Mo_free_183 rfl ?_
          refine g_callv (N := 0) (mc := 0) (ms := 0) (av := [_]) O (Or.inl ⟨_, _, cw_Mo_fine⟩) pl_Mo (ci := 6) (q := q_Mo) rfl hM.km ml_Mo_87 im_Mo_fine se_Mo_fine rfl d_Mo_free_185 rfl (Nat.le_of_ble_eq_true rfl) (Nat.le_of_ble_eq_true rfl) (Nat.le_of_ble_eq_true rfl) (Nat.le_of_ble_eq_true rfl) ?_
          refine ct_Mo_fine hM.km ?_
          change cd_Go _ _ _ _ _ _ _ _ _ _
          refine g_iret O d_Mo_free_188 (Nat.le_of_ble_eq_true rfl) (Nat.le_of_ble_eq_true rfl) ?_
          have e9 : itr (ulK (kH σ c) (kT σ c)) ((setT (spend σ c) (kH σ c) (kT σ c) false), 0) 36 = remO (spend σ c) (kH σ c) (kT σ c) := ulK_3 (kH σ c) (kT σ c) ((setT (spend σ c) (kH σ c) (kT σ c) false), 0) 12
          rw [e9] at hM ⊢
          exact MC.fine ((spr_ok hSp).2.2.2.1.rm hM) (spr_ok hSp).1 hP.2 h
        · exact absurd (Int32.le_refl _) c121
      · skip
        obtain ⟨hM, hF⟩ := hP
        obtain ⟨u1, u2⟩ := ulK_k (kH σ c) (kT σ c) ((setT (spend σ c) (kH σ c) (kT σ c) false), 0) k
        have hc1 : c < sC (itr (ulK (kH σ c) (kT σ c)) ((setT (spend σ c) (kH σ c) (kT σ c) false), 0) k).1 := by rw [u1.1.2]; exact s1.2 ▸ hc
        have hk1 : kH (itr (ulK (kH σ c) (kT σ c)) ((setT (spend σ c) (kH σ c) (kT σ c) false), 0) k).1 c = kH σ c := (u1.k c).1.trans (s6 c)
        have hD1 : kH σ c < sD (itr (ulK (kH σ c) (kT σ c)) ((setT (spend σ c) (kH σ c) (kT σ c) false), 0) k).1 := by rw [u1.1.1]; exact s1.1 ▸ hw.2.1
        have hdiv : (kH σ c * 36 + k) / 3 = kH σ c * 12 + k / 3 := by omega
        have hfo : fOk (sF (itr (ulK (kH σ c) (kT σ c)) ((setT (spend σ c) (kH σ c) (kT σ c) false), 0) k).1 (kH σ c) (k / 3) (k % 3)) := ulK_ok hI c k _ _ _
        have hQ := hM.F hw.1 (show k / 3 < 12 by omega) (show k % 3 < 3 by omega)
        rw [show (kH σ c * 12 + k / 3) * 3 + k % 3 = kH σ c * 36 + k by omega] at hQ
        refine g_iload O d_Mo_free_107 rfl ?_
        first | refine g_aload_n O 0 d_Mo_free_109 rfl rfl ?_ | refine g_aload_nq O 0 d_Mo_free_109 rfl rfl ?_
        refine g_iload O d_Mo_free_110 rfl ?_
        refine g_callv (N := 0) (mc := 0) (ms := 0) (av := [_]) O (Or.inl ⟨_, _, cw_Mo_home⟩) pl_Mo (ci := 6) (q := q_Mo) rfl hM.km ml_Mo_70 im_Mo_home se_Mo_home rfl d_Mo_free_112 rfl (Nat.le_of_ble_eq_true rfl) (Nat.le_of_ble_eq_true rfl) (Nat.le_of_ble_eq_true rfl) (Nat.le_of_ble_eq_true rfl) ?_
        refine ct_Mo_home hM hc1 ?_
        rw [hk1]
        change cd_Go _ _ _ _ _ _ _ _ _ _
        refine g_bipush (v := 36) O d_Mo_free_115 (by decide) ?_
        refine g_imul O d_Mo_free_117 ?_
        refine g_bipush (v := 36) O d_Mo_free_118 (by decide) ?_
        refine g_iadd O d_Mo_free_120 ?_
        rw [m36, show (36 : Int32) = nI 36 from rfl, nI_add]
        refine g_icmp_ge  O 182 d_Mo_free_121 (by decide) (fun c121 => ?_) (fun c121 => ?_)
        · exact absurd c121 (nI_ge (b := kH σ c * 36 + 36) (by omega) (by omega))
        · first | refine g_aload_n O 0 d_Mo_free_124 rfl rfl ?_ | refine g_aload_nq O 0 d_Mo_free_124 rfl rfl ?_
          refine g_getS O c_Mo 4 (by decide) rfl hM.km lk_Mo_23 d_Mo_free_125 (hM.a 4 (by omega) (by omega)).1 ?_
          refine g_iload O d_Mo_free_128 rfl ?_
          refine g_iconst (v := 3) O d_Mo_free_130 (by decide) ?_
          refine g_idiv O d_Mo_free_131 (by decide) ?_
          rw [d3 (show kH σ c * 36 + k < 2 ^ 31 by omega), hdiv]
          refine g_zaldV O 1 rfl rfl (hM.a 4 (by omega) (by omega)).2.1 (by (try simp only [ln_wI]); rw [(hM.a 4 (by omega) (by omega)).2.2]; exact ix_in (n := 72) (show kH σ c * 12 + k / 3 < 72 from by omega) (by omega)) d_Mo_free_132 (Eq.trans (congrArg (cd_I _ (1000 + 1) (B 4)) (cl_nI (j := kH σ c * 12 + k / 3) (by omega))) (hM.T hw.1 (show k / 3 < 12 by omega))) ?_
          refine g_if_eq  O 176 d_Mo_free_133 (by decide) (fun c133 => ?_) (fun c133 => ?_)
          · have e1 : itr (ulK (kH σ c) (kT σ c)) ((setT (spend σ c) (kH σ c) (kT σ c) false), 0) (k + 1) = (itr (ulK (kH σ c) (kT σ c)) ((setT (spend σ c) (kH σ c) (kT σ c) false), 0) k) := by rw [itr_s]; exact if_neg (by rw [cd_b_eq.mp c133]; decide)
            first | refine g_iinc O d_Mo_free_176 rfl (ic1 _) ?_ | refine g_iinc O d_Mo_free_176 rfl rfl ?_
            refine g_goto O 107 d_Mo_free_179 (by decide) ?_
            first
              | (have e := ih _ ⟨by rw [e1]; exact hM, hF⟩
                 rw [e1] at e
                 exact e)
              | (have e := ih _ ⟨by rw [e1]; exact hM2, hF.tr (fr_5 hF2)⟩
                 rw [e1] at e
                 exact e)
          · have hTk := cd_b_ne.mp c133
            first | refine g_aload_n O 0 d_Mo_free_136 rfl rfl ?_ | refine g_aload_nq O 0 d_Mo_free_136 rfl rfl ?_
            refine g_getS O c_Mo 5 (by decide) rfl hM.km lk_Mo_26 d_Mo_free_137 (hM.a 5 (by omega) (by omega)).1 ?_
            refine g_iload O d_Mo_free_140 rfl ?_
            refine g_ialdV O 0 rfl rfl (hM.a 5 (by omega) (by omega)).2.1 (by (try simp only [ln_wI]); rw [(hM.a 5 (by omega) (by omega)).2.2]; exact ix_in (n := 216) (show kH σ c * 36 + k < 216 from by omega) (by omega)) d_Mo_free_142 (Eq.trans (congrArg (cd_I _ (1000 + 0) (B 5)) (cl_nI (j := kH σ c * 36 + k) (by omega))) (hQ.1)) ?_
            refine g_iconst (v := 1) O d_Mo_free_143 (by decide) ?_
            refine g_icmp_ne  O 176 d_Mo_free_144 (by decide) (fun c144 => ?_) (fun c144 => ?_)
            · have hlk := fS_n1 hfo c144
              have e1 : itr (ulK (kH σ c) (kT σ c)) ((setT (spend σ c) (kH σ c) (kT σ c) false), 0) (k + 1) = (itr (ulK (kH σ c) (kT σ c)) ((setT (spend σ c) (kH σ c) (kT σ c) false), 0) k) := by
                rw [itr_s]
                refine (if_pos hTk).trans (if_neg (fun z => ?_))
                rw [hlk] at z; cases z
              first | refine g_iinc O d_Mo_free_176 rfl (ic1 _) ?_ | refine g_iinc O d_Mo_free_176 rfl rfl ?_
              refine g_goto O 107 d_Mo_free_179 (by decide) ?_
              first
                | (have e := ih _ ⟨by rw [e1]; exact hM, hF⟩
                   rw [e1] at e
                   exact e)
                | (have e := ih _ ⟨by rw [e1]; exact hM2, hF.tr (fr_5 hF2)⟩
                   rw [e1] at e
                   exact e)
            · obtain ⟨y, hy⟩ := fS_1 hfo c144
              have hy12 : y < 12 := hM.wf.2.2.1 (kH σ c) (k / 3) (k % 3) y hD1 (by omega) (by omega) (by rw [hy])
              rw [hy] at hQ
              first | refine g_aload_n O 0 d_Mo_free_147 rfl rfl ?_ | refine g_aload_nq O 0 d_Mo_free_147 rfl rfl ?_
              refine g_getS O c_Mo 6 (by decide) rfl hM.km lk_Mo_30 d_Mo_free_148 (hM.a 6 (by omega) (by omega)).1 ?_
              refine g_iload O d_Mo_free_151 rfl ?_
              refine g_ialdV O 0 rfl rfl (hM.a 6 (by omega) (by omega)).2.1 (by (try simp only [ln_wI]); rw [(hM.a 6 (by omega) (by omega)).2.2]; exact ix_in (n := 216) (show kH σ c * 36 + k < 216 from by omega) (by omega)) d_Mo_free_153 (Eq.trans (congrArg (cd_I _ (1000 + 0) (B 6)) (cl_nI (j := kH σ c * 36 + k) (by omega))) (hQ.2)) ?_
              refine g_iload O d_Mo_free_154 rfl ?_
              refine g_bipush (v := 12) O d_Mo_free_156 (by decide) ?_
              refine g_irem O d_Mo_free_158 (by decide) ?_
              rw [r12 hw.1 hw.2.2.1]
              refine g_icmp_eq  O 165 d_Mo_free_159 (by decide) (fun c159 => ?_) (fun c159 => ?_)
              · have hye : y = kT σ c := (nI_eq (by omega) (by omega)).mp c159
                have e1 : itr (ulK (kH σ c) (kT σ c)) ((setT (spend σ c) (kH σ c) (kT σ c) false), 0) (k + 1) = (setF (itr (ulK (kH σ c) (kT σ c)) ((setT (spend σ c) (kH σ c) (kT σ c) false), 0) k).1 (kH σ c) (k / 3) (k % 3) zF, (itr (ulK (kH σ c) (kT σ c)) ((setT (spend σ c) (kH σ c) (kT σ c) false), 0) k).2 + 1) := by
                  rw [itr_s]
                  refine (if_pos hTk).trans (if_pos ?_)
                  rw [hy, hye]
                first | refine g_aload_n O 0 d_Mo_free_165 rfl rfl ?_ | refine g_aload_nq O 0 d_Mo_free_165 rfl rfl ?_
                refine g_iload O d_Mo_free_166 rfl ?_
                refine g_iconst (v := 0) O d_Mo_free_168 (by decide) ?_
                refine g_iconst (v := 0) O d_Mo_free_169 (by decide) ?_
                refine g_callv (N := 0) (mc := 0) (ms := 0) (av := [_, _, _]) O (Or.inl ⟨_, _, cw_Mo_put⟩) pl_Mo (ci := 6) (q := q_Mo) rfl hM.km ml_Mo_90 im_Mo_put se_Mo_put rfl d_Mo_free_170 rfl (Nat.le_of_ble_eq_true rfl) (Nat.le_of_ble_eq_true rfl) (Nat.le_of_ble_eq_true rfl) (Nat.le_of_ble_eq_true rfl) ?_
                refine ct_Mo_put (t := zF) hM hw.1 (show k / 3 < 12 by omega) (show k % 3 < 3 by omega) (by congr 1; omega) rfl rfl (fun _ z => by cases z) (fun _ z => by cases z) (fun w2 hM2 hF2 => ?_)
                change cd_Go _ _ _ _ _ _ _ _ _ _
                first | refine g_iinc O d_Mo_free_173 rfl (ic1 _) ?_ | refine g_iinc O d_Mo_free_173 rfl rfl ?_
                first | refine g_iinc O d_Mo_free_176 rfl (ic1 _) ?_ | refine g_iinc O d_Mo_free_176 rfl rfl ?_
                refine g_goto O 107 d_Mo_free_179 (by decide) ?_
                first
                  | (have e := ih _ ⟨by rw [e1]; exact hM, hF⟩
                     rw [e1] at e
                     exact e)
                  | (have e := ih _ ⟨by rw [e1]; exact hM2, hF.tr (fr_5 hF2)⟩
                     rw [e1] at e
                     exact e)
              · have hne : ¬ y = kT σ c := fun z => c159 (by rw [z]; rfl)
                have e1 : itr (ulK (kH σ c) (kT σ c)) ((setT (spend σ c) (kH σ c) (kT σ c) false), 0) (k + 1) = (itr (ulK (kH σ c) (kT σ c)) ((setT (spend σ c) (kH σ c) (kT σ c) false), 0) k) := by
                  rw [itr_s]
                  refine (if_pos hTk).trans (if_neg (fun z => ?_))
                  rw [hy] at z; exact hne (Option.some.inj z)
                refine g_goto O 176 d_Mo_free_162 (by decide) ?_
                first | refine g_iinc O d_Mo_free_176 rfl (ic1 _) ?_ | refine g_iinc O d_Mo_free_176 rfl rfl ?_
                refine g_goto O 107 d_Mo_free_179 (by decide) ?_
                first
                  | (have e := ih _ ⟨by rw [e1]; exact hM, hF⟩
                     rw [e1] at e
                     exact e)
                  | (have e := ih _ ⟨by rw [e1]; exact hM2, hF.tr (fr_5 hF2)⟩
                     rw [e1] at e
                     exact e)
    have loopA : ∀ (k : Nat) (v : cd_Wd), k ≤ sC σ → (RepM v m B (setT (spend σ c) (kH σ c) (kT σ c) false) (gFr σ g (kH σ c * 12 + kT σ c) k) ∧ cd_Fr w v (mow m B)) → cd_Go G l C (cd_MQ G (cx_s C) (cx_b C) 0 0 Q) (0) (0) v 61 [some (.ref m), some (.int (nI j)), some (.int (nI i)), some (.int 0), some (.int (nI c)), some (.int (nI (kH σ c * 12 + kT σ c))), some (.int 0), some (.int (nI k))] [] := by
      refine lp (sC σ) (P := fun k v => RepM v m B (setT (spend σ c) (kH σ c) (kT σ c) false) (gFr σ g (kH σ c * 12 + kT σ c) k) ∧ cd_Fr w v (mow m B)) (g := fun k v => cd_Go G l C (cd_MQ G (cx_s C) (cx_b C) 0 0 Q) (0) (0) v 61 [some (.ref m), some (.int (nI j)), some (.int (nI i)), some (.int 0), some (.int (nI c)), some (.int (nI (kH σ c * 12 + kT σ c))), some (.int 0), some (.int (nI k))] []) (fun v hP => ?_) (fun k v hk hP ih => ?_)
      · skip
        have hM := hP.1
        have hc1 : c < sC (setT (spend σ c) (kH σ c) (kT σ c) false) := s1.2 ▸ hc
        refine g_iload O d_Mo_free_61 rfl ?_
        first | refine g_aload_n O 0 d_Mo_free_63 rfl rfl ?_ | refine g_aload_nq O 0 d_Mo_free_63 rfl rfl ?_
        refine g_getV O c_Mo 1 (by decide) rfl hM.km lk_Mo_13 d_Mo_free_64 (show cd_I v 193 m 0 = nI (sC σ) from hM.C.trans (by rw [show sC (setT (spend σ c) (kH σ c) (kT σ c) false) = sC σ from s1.2])) ?_
        refine g_icmp_ge  O 96 d_Mo_free_67 (by decide) (fun c67 => ?_) (fun c67 => ?_)
        · first | refine g_aload_n O 0 d_Mo_free_96 rfl rfl ?_ | refine g_aload_nq O 0 d_Mo_free_96 rfl rfl ?_
          refine g_iload O d_Mo_free_97 rfl ?_
          refine g_callv (N := 0) (mc := 0) (ms := 0) (av := [_]) O (Or.inl ⟨_, _, cw_Mo_home⟩) pl_Mo (ci := 6) (q := q_Mo) rfl hM.km ml_Mo_70 im_Mo_home se_Mo_home rfl d_Mo_free_99 rfl (Nat.le_of_ble_eq_true rfl) (Nat.le_of_ble_eq_true rfl) (Nat.le_of_ble_eq_true rfl) (Nat.le_of_ble_eq_true rfl) ?_
          refine ct_Mo_home hM hc1 ?_
          rw [show kH (setT (spend σ c) (kH σ c) (kT σ c) false) c = kH σ c from s6 c]
          change cd_Go _ _ _ _ _ _ _ _ _ _
          refine g_bipush (v := 36) O d_Mo_free_102 (by decide) ?_
          refine g_imul O d_Mo_free_104 ?_
          rw [m36]
          refine g_istore O d_Mo_free_105 (Nat.le_of_ble_eq_true rfl) ?_
          exact loopB 0 v (by omega) hP
        · exact absurd (Int32.le_refl _) c67
      · skip
        obtain ⟨hM, hF⟩ := hP
        have hkw := hw0 k hk
        have hK8 : cd_I v 1000 (B 8) k = nI (kH σ k * 12 + kT σ k) := by
          rw [(hM.K (show k < sC (setT (spend σ c) (kH σ c) (kT σ c) false) from s1.2 ▸ hk)).1, show kH (setT (spend σ c) (kH σ c) (kT σ c) false) k = kH σ k from s6 k, show kT (setT (spend σ c) (kH σ c) (kT σ c) false) k = kT σ k from s7 k]
        refine g_iload O d_Mo_free_61 rfl ?_
        first | refine g_aload_n O 0 d_Mo_free_63 rfl rfl ?_ | refine g_aload_nq O 0 d_Mo_free_63 rfl rfl ?_
        refine g_getV O c_Mo 1 (by decide) rfl hM.km lk_Mo_13 d_Mo_free_64 (show cd_I v 193 m 0 = nI (sC σ) from hM.C.trans (by rw [show sC (setT (spend σ c) (kH σ c) (kT σ c) false) = sC σ from s1.2])) ?_
        refine g_icmp_ge  O 96 d_Mo_free_67 (by decide) (fun c67 => ?_) (fun c67 => ?_)
        · exact absurd c67 (nI_ge (b := sC σ) hk (by omega))
        · first | refine g_aload_n O 0 d_Mo_free_70 rfl rfl ?_ | refine g_aload_nq O 0 d_Mo_free_70 rfl rfl ?_
          refine g_getS O c_Mo 8 (by decide) rfl hM.km lk_Mo_36 d_Mo_free_71 (hM.a 8 (by omega) (by omega)).1 ?_
          refine g_iload O d_Mo_free_74 rfl ?_
          refine g_ialdV O 0 rfl rfl (hM.a 8 (by omega) (by omega)).2.1 (by (try simp only [ln_wI]); rw [(hM.a 8 (by omega) (by omega)).2.2]; exact ix_in (n := 40) (show k < 40 from by omega) (by omega)) d_Mo_free_76 (Eq.trans (congrArg (cd_I _ (1000 + 0) (B 8)) (cl_nI (j := k) (by omega))) (hK8)) ?_
          refine g_iload O d_Mo_free_77 rfl ?_
          refine g_icmp_ne  O 90 d_Mo_free_79 (by decide) (fun c79 => ?_) (fun c79 => ?_)
          · have e1 := gFr_f (σ := σ) (g := g) (z := kH σ c * 12 + kT σ c) (n := k) (fun z => c79 (by rw [z]))
            first | refine g_iinc O d_Mo_free_90 rfl (ic1 _) ?_ | refine g_iinc O d_Mo_free_90 rfl rfl ?_
            refine g_goto O 61 d_Mo_free_93 (by decide) ?_
            first
              | (have e := ih _ ⟨by rw [e1]; exact hM, hF⟩
                 exact e)
              | (rw [cl_nI (show k < 2 ^ 31 by omega)]
                 exact ih _ ⟨by rw [e1]; exact rm_G hM k, hF.tr (cd_Fr.wI (mow_k (k := 12) (by omega) (by omega)))⟩)
          · have e1 := gFr_t (σ := σ) (g := g) (z := kH σ c * 12 + kT σ c) (n := k) ((nI_eq (by omega) (by omega)).mp c79)
            first | refine g_aload_n O 0 d_Mo_free_82 rfl rfl ?_ | refine g_aload_nq O 0 d_Mo_free_82 rfl rfl ?_
            refine g_getS O c_Mo 12 (by decide) rfl hM.km lk_Mo_48 d_Mo_free_83 (hM.a 12 (by omega) (by omega)).1 ?_
            refine g_iload O d_Mo_free_86 rfl ?_
            refine g_iconst (v := 1) O d_Mo_free_88 (by decide) ?_
            refine g_zast O 1 rfl rfl (hM.a 12 (by omega) (by omega)).2.1 (by (try simp only [ln_wI]); rw [(hM.a 12 (by omega) (by omega)).2.2]; exact ix_in (n := 40) (show k < 40 from by omega) (by omega)) (by first | exact Or.inl rfl | exact Or.inr rfl | assumption) d_Mo_free_89 ?_
            first | refine g_iinc O d_Mo_free_90 rfl (ic1 _) ?_ | refine g_iinc O d_Mo_free_90 rfl rfl ?_
            refine g_goto O 61 d_Mo_free_93 (by decide) ?_
            first
              | (have e := ih _ ⟨by rw [e1]; exact hM, hF⟩
                 exact e)
              | (rw [cl_nI (show k < 2 ^ 31 by omega)]
                 exact ih _ ⟨by rw [e1]; exact rm_G hM k, hF.tr (cd_Fr.wI (mow_k (k := 12) (by omega) (by omega)))⟩)
    exact loopA 0 _ (by omega) ⟨by rw [gFr_0]; exact rm_T hM1 (kH σ c) hw.2.2.1 false, (fr_10 hF1).tr (cd_Fr.wI (mow_k (k := 4) (by omega) (by omega)))⟩
  · exact absurd rfl c10
